def jX8_lay_y5 (o : Ms) (a1 : Int32) (a2 : Int32) (a3 : Int32) (y5 : Int32) : Int32 × Ms := (if a1 = (1 : Int32) then (if y5 = (-1 : Int32) then ((jX8_done (s_shafts o (upd (m_shafts o) (((4 : Int32) * a1) + a2).toNatClampNeg y5)) (1 : Int32)).1, (jX8_done (s_shafts o (upd (m_shafts o) (((4 : Int32) * a1) + a2).toNatClampNeg y5)) (1 : Int32)).2) else (if (m_sortOf o y5.toNatClampNeg) = 0 then ((jX8_fails o (-14 : Int32)).1, (jX8_fails o (-14 : Int32)).2) else ((jX8_done (s_shafts o (upd (m_shafts o) (((4 : Int32) * a1) + a2).toNatClampNeg y5)) (1 : Int32)).1, (jX8_done (s_shafts o (upd (m_shafts o) (((4 : Int32) * a1) + a2).toNatClampNeg y5)) (1 : Int32)).2))) else ((jX8_done (s_shafts o (upd (m_shafts o) (((4 : Int32) * a1) + a2).toNatClampNeg y5)) (1 : Int32)).1, (jX8_done (s_shafts o (upd (m_shafts o) (((4 : Int32) * a1) + a2).toNatClampNeg y5)) (1 : Int32)).2))
def sX8_lay_y5 (o : Ms) (a1 : Int32) (a2 : Int32) (a3 : Int32) (y5 : Int32) : Prop := True ∧ (if a1 = (1 : Int32) then (if y5 = (-1 : Int32) then (vp_in (((4 : Int32) * a1) + a2) 8 ∧ True) else (vp_in y5 20 ∧ (if (m_sortOf o y5.toNatClampNeg) = 0 then (sX8_fails o (-14 : Int32) ∧ True) else (vp_in (((4 : Int32) * a1) + a2) 8 ∧ True)))) else (vp_in (((4 : Int32) * a1) + a2) 8 ∧ True))
def jX8_lay (o : Ms) (a1 : Int32) (a2 : Int32) (a3 : Int32) : Int32 × Ms := (if (jX8_isShaft a1) = 0 then ((-101 : Int32), o) else (if (jX8_isSlot a3) = 0 then ((-101 : Int32), o) else (if (jX8_in (a2.toInt64) (0 : Int64) (3 : Int64)) = 0 then ((jX8_fails o (-12 : Int32)).1, (jX8_fails o (-12 : Int32)).2) else (jX8_lay_y5 o a1 a2 a3 (m_slots o a3.toNatClampNeg)))))
def sX8_lay (o : Ms) (a1 : Int32) (a2 : Int32) (a3 : Int32) : Prop := True ∧ (if (jX8_isShaft a1) = 0 then True else (if (jX8_isSlot a3) = 0 then True else (if (jX8_in (a2.toInt64) (0 : Int64) (3 : Int64)) = 0 then (sX8_fails o (-12 : Int32) ∧ True) else (vp_in a3 6 ∧ (sX8_lay_y5 o a1 a2 a3 (m_slots o a3.toNatClampNeg))))))
set_option linter.constructorNameAsVariable false in
set_option maxHeartbeats 8000000 in
set_option maxRecDepth 100000 in
theorem qX8_lay (l : Launch) (dC : Nat → ClassId) (dI : Nat → Nat → Nat) (cy : Nat → ClassId) (y : Nat) (bd : Nat → Nat) (sz : Nat) (o : Ms) (a1 : Int32) (a2 : Int32) (a3 : Int32) (hV : sX8_lay o a1 a2 a3) : Met l yX8_lay wsX8_lay ({ frames := 2, cells := 0, slots := 0, locals := 45 }) (va_Pc [.ref y, .int a1, .int a2, .int a3] (wI (dC, dI) (tyA cy) (WM cy y bd o) sz)) (va_Qi (fun r u => (r, u) = jX8_lay o a1 a2 a3) (fun u t => wO (dC, dI) (tyA cy) (va_A (WM cy y bd o) sz) (WM cy y bd u) t) (va_A (WM cy y bd o) sz)) 0 0 (va_A (WM cy y bd o) sz) := by
  refine Met.ofW (cc := cX8_lay) (maxL := 5) (ret := some .int) (by decide) rfl ?_
  intro p e s m args below meth c s₁ B hml hv
  obtain ⟨rfl, hsz, hP, hK, hD0, hk⟩ := hv
  have hx := B.exec
  have hb := B.bytes
  have hr := B.returns
  have hts := atoms_spec (ws := wsX8_lay) B.pre
  have hown : s.vm.findClass RX8 = some m.cls := findClass_of_methodNamed B.named
  have hlocks := B.notSynchronized
  subst hsz
  have hD := hD0.self (sz := s.heap.size)
  generalize hAe : va_A (WM cy y bd o) s.heap.size = A at hD ⊢
  have hA : ∀ q : Nat, s.heap.size ≤ q → A q := fun q h => by rw [← hAe]; exact Or.inr h
  obtain ⟨H, hHe⟩ : ∃ H, s.heap = H := ⟨_, rfl⟩
  have hP : va_P (dC, dI) vwCl (WM cy y bd o) H := by rw [← hHe]; exact hP
  have hS : va_S A s.heap H [] := by rw [← hHe]; exact va_S.rf
  rw [w_heap hHe]
  have hi_wsX80 : ∀ w ∈ wsX80, w ∈ wsX8_lay := fun _ h => List.mem_cons_of_mem _ (List.mem_append_right _ h)
  obtain ⟨JR, hE⟩ : ∃ q, jX8_lay o a1 a2 a3 = q := ⟨_, rfl⟩
  have hJ := hE
  rw [jX8_lay] at hJ
  rw [sX8_lay] at hV
  have hV := hV.2
  have hl := lv_entry ([.ref y, .int a1, .int a2, .int a3]) (n := 5) (Nat.le_of_ble_eq_true rfl)
  rw [lg_entry_eq]
  generalize (lg_sl ([.ref y, .int a1, .int a2, .int a3]) ++ List.replicate (5 - (lg_sl ([.ref y, .int a1, .int a2, .int a3])).length) Slot.unset).toArray = ls at hl ⊢
  have hl : lv_has ls 5 [(0, .ref y), (1, .int a1), (2, .int a2), (3, .int a3)] := hl
  refine lv_iload_n hx hb dX8_lay_0 rfl (lv_at hl 1 rfl) ?_
  refine vp_callSi (W.runS (As := [.int a1]) (rest := []) ⟨hx, hb, hml, hown, hts⟩ (qX8_isShaft l a1) (va_cwS 1 hts gX8_lay_X8_isShaft rfl rfl rfl (by decide +kernel) ⟨Nat.le_of_ble_eq_true rfl, Nat.le_of_ble_eq_true rfl⟩) ⟨fun _ _ _ _ q => q, fun U hU hW => rfl⟩ rfl rfl hl.1 rfl (lv_room (Nat.le_of_ble_eq_true rfl)) dX8_lay_1 ⟨Nat.le_of_ble_eq_true rfl, Nat.le_of_ble_eq_true rfl⟩) (fun r hq9 => ?_)
  rw [hq9]
  refine lv_if_eq (tgt := 14) hx hb dX8_lay_4 (by decide) (fun c1 => ?_) (fun c1 => ?_)
  · skip
    rw [if_pos c1] at hJ
    rw [if_pos c1] at hV
    refine lv_bipush (v := (-101 : Int32)) hx hb dX8_lay_14 (by decide) ?_
    exact W.iret hx hb hr (fun t ht hW => ⟨⟨_, _, rfl, hJ.trans hE.symm, by rw [ht]; exact hP, va_K.moved hW.alike hK, hD⟩, hS.F ht⟩) hS.2.2 dX8_lay_16
  · skip
    rw [if_neg c1] at hJ
    rw [if_neg c1] at hV
    refine lv_iload_n hx hb dX8_lay_7 rfl (lv_at hl 3 rfl) ?_
    refine vp_callSi (W.runS (As := [.int a3]) (rest := []) ⟨hx, hb, hml, hown, hts⟩ (qX8_isSlot l a3) (va_cwS 1 hts gX8_lay_X8_isSlot rfl rfl rfl (by decide +kernel) ⟨Nat.le_of_ble_eq_true rfl, Nat.le_of_ble_eq_true rfl⟩) ⟨fun _ _ _ _ q => q, fun U hU hW => rfl⟩ rfl rfl hl.1 rfl (lv_room (Nat.le_of_ble_eq_true rfl)) dX8_lay_8 ⟨Nat.le_of_ble_eq_true rfl, Nat.le_of_ble_eq_true rfl⟩) (fun r hq9 => ?_)
    rw [hq9]
    refine lv_if_ne (tgt := 17) hx hb dX8_lay_11 (by decide) (fun c2 => ?_) (fun c2 => ?_)
    · skip
      rw [if_neg c2] at hJ
      rw [if_neg c2] at hV
      refine lv_iload_n hx hb dX8_lay_17 rfl (lv_at hl 2 rfl) ?_
      refine lv_i2l (v := a2.toInt64) hx hb dX8_lay_18 rfl ?_
      refine lv_lconst (v := (0 : Int64)) hx hb dX8_lay_19 (by decide) ?_
      refine lv_ldc2 (v := (3 : Int64)) hx hb hown (hts (.constantLong RX8 184 (3)) (by decide +kernel)) dX8_lay_20 ?_
      refine vp_callSi (W.runS (As := [.long (a2.toInt64), .long (0 : Int64), .long (3 : Int64)]) (rest := []) ⟨hx, hb, hml, hown, hts⟩ (qX8_in l (a2.toInt64) (0 : Int64) (3 : Int64)) (va_cwS 3 hts gX8_lay_X8_in rfl rfl rfl (by decide +kernel) ⟨Nat.le_of_ble_eq_true rfl, Nat.le_of_ble_eq_true rfl⟩) ⟨fun _ _ _ _ q => q, fun U hU hW => rfl⟩ rfl rfl hl.1 rfl (lv_room (Nat.le_of_ble_eq_true rfl)) dX8_lay_23 ⟨Nat.le_of_ble_eq_true rfl, Nat.le_of_ble_eq_true rfl⟩) (fun r hq9 => ?_)
      rw [hq9]
      refine lv_if_ne (tgt := 36) hx hb dX8_lay_26 (by decide) (fun c3 => ?_) (fun c3 => ?_)
      · skip
        rw [if_neg c3] at hJ
        rw [if_neg c3] at hV
        refine lv_aload_n hx hb dX8_lay_36 rfl (lv_at hl 0 rfl) ?_
        refine va_get (D := (dC, dI)) (ci := 6) (v := .ref (bd 10)) (C := RX8) (T := TX8) (N := 20) (fs := wm_f bd o) hx hb hts hi_wsX80 hown hK hP 0 rfl rfl 12 (by decide) (hts (.fieldLink RX8 44 "OrreryDialsModel" "slots" "[I") (by decide +kernel)) (fun _ h9 => h9) rfl dX8_lay_37 ?_
        refine lv_iload_n hx hb dX8_lay_40 rfl (lv_at hl 3 rfl) ?_
        obtain ⟨hk4, hV⟩ := hV
        refine va_iald hx hb hK hP 11 0 rfl rfl hk4 dX8_lay_41 ?_
        refine lv_topi (fun y5 ey5 => ?_)
        rw [← ey5] at hJ
        rw [jX8_lay_y5] at hJ
        rw [← ey5] at hV
        rw [sX8_lay_y5] at hV
        have hV := hV.2
        refine lv_istore (lv' := [(4, .int y5), (0, .ref y), (1, .int a1), (2, .int a2), (3, .int a3)]) hx hb dX8_lay_42 hl (by decide) rfl (fun ls hl => ?_)
        refine lv_iload_n hx hb dX8_lay_44 rfl (lv_at hl 2 rfl) ?_
        refine lv_iconst (v := (1 : Int32)) hx hb dX8_lay_45 (by decide) ?_
        refine lv_icmp_ne (tgt := 72) hx hb dX8_lay_46 (by decide) (fun c6 => ?_) (fun c6 => ?_)
        · skip
          rw [if_neg c6] at hJ
          rw [if_neg c6] at hV
          refine lv_aload_n hx hb dX8_lay_72 rfl (lv_at hl 1 rfl) ?_
          refine va_get (D := (dC, dI)) (ci := 6) (v := .ref (bd 11)) (C := RX8) (T := TX8) (N := 20) (fs := wm_f bd o) hx hb hts hi_wsX80 hown hK hP 0 rfl rfl 13 (by decide) (hts (.fieldLink RX8 47 "OrreryDialsModel" "shafts" "[I") (by decide +kernel)) (fun _ h9 => h9) rfl dX8_lay_73 ?_
          refine lv_iconst (v := (4 : Int32)) hx hb dX8_lay_76 (by decide) ?_
          refine lv_iload_n hx hb dX8_lay_77 rfl (lv_at hl 2 rfl) ?_
          refine lv_imul hx hb dX8_lay_78 ?_
          refine lv_iload_n hx hb dX8_lay_79 rfl (lv_at hl 3 rfl) ?_
          refine lv_iadd hx hb dX8_lay_80 ?_
          refine lv_iload hx hb dX8_lay_81 (lv_at hl 0 rfl) ?_
          obtain ⟨hk7, hV⟩ := hV
          refine va_iast hx hb hK hP hD hS 12 0 rfl rfl hk7 dX8_lay_83 (fun H locs hP hD hS => ?_)
          rw [wm_a_shafts] at hP hD
          refine lv_aload_n hx hb dX8_lay_84 rfl (lv_at hl 1 rfl) ?_
          refine lv_iconst (v := (1 : Int32)) hx hb dX8_lay_85 (by decide) ?_
          refine cl_i (va_runV (As := [.int (1 : Int32)]) (rest := []) ⟨hx, hb, hml, hown, hts⟩ (qX8_done l dC dI cy y bd H.size (s_shafts o (upd (m_shafts o) (((4 : Int32) * a1) + a2).toNatClampNeg y5)) (1 : Int32)) (cwV 1 hts gX8_lay_X8_done rfl rfl rfl (by decide +kernel) ⟨Nat.le_of_ble_eq_true rfl, Nat.le_of_ble_eq_true rfl⟩) (pV hK hP hD hk (q0 := 0) rfl rfl) rfl rfl hl.1 rfl (lv_room (Nat.le_of_ble_eq_true rfl)) dX8_lay_86 ⟨Nat.le_of_ble_eq_true rfl, Nat.le_of_ble_eq_true rfl⟩) hD hS hA (fun r u H locs hw hP hD hS => ?_)
          have hr1 : r = (jX8_done (s_shafts o (upd (m_shafts o) (((4 : Int32) * a1) + a2).toNatClampNeg y5)) (1 : Int32)).1 := congrArg Prod.fst hw
          have hu1 : u = (jX8_done (s_shafts o (upd (m_shafts o) (((4 : Int32) * a1) + a2).toNatClampNeg y5)) (1 : Int32)).2 := congrArg Prod.snd hw
          rw [hu1] at hP hD
          rw [hr1]
          exact W.iret hx hb hr (fun t ht hW => ⟨⟨_, _, rfl, hJ.trans hE.symm, by rw [ht]; exact hP, va_K.moved hW.alike hK, hD⟩, hS.F ht⟩) hS.2.2 dX8_lay_89
        · skip
          rw [if_pos c6] at hJ
          rw [if_pos c6] at hV
          refine lv_iload hx hb dX8_lay_49 (lv_at hl 0 rfl) ?_
          refine lv_iconst (v := (-1 : Int32)) hx hb dX8_lay_51 (by decide) ?_
          refine lv_icmp_eq (tgt := 72) hx hb dX8_lay_52 (by decide) (fun c8 => ?_) (fun c8 => ?_)
          · skip
            rw [if_pos c8] at hJ
            rw [if_pos c8] at hV
            refine lv_aload_n hx hb dX8_lay_72 rfl (lv_at hl 1 rfl) ?_
            refine va_get (D := (dC, dI)) (ci := 6) (v := .ref (bd 11)) (C := RX8) (T := TX8) (N := 20) (fs := wm_f bd o) hx hb hts hi_wsX80 hown hK hP 0 rfl rfl 13 (by decide) (hts (.fieldLink RX8 47 "OrreryDialsModel" "shafts" "[I") (by decide +kernel)) (fun _ h9 => h9) rfl dX8_lay_73 ?_
            refine lv_iconst (v := (4 : Int32)) hx hb dX8_lay_76 (by decide) ?_
            refine lv_iload_n hx hb dX8_lay_77 rfl (lv_at hl 2 rfl) ?_
            refine lv_imul hx hb dX8_lay_78 ?_
            refine lv_iload_n hx hb dX8_lay_79 rfl (lv_at hl 3 rfl) ?_
            refine lv_iadd hx hb dX8_lay_80 ?_
            refine lv_iload hx hb dX8_lay_81 (lv_at hl 0 rfl) ?_
            obtain ⟨hk9, hV⟩ := hV
            refine va_iast hx hb hK hP hD hS 12 0 rfl rfl hk9 dX8_lay_83 (fun H locs hP hD hS => ?_)
            rw [wm_a_shafts] at hP hD
            refine lv_aload_n hx hb dX8_lay_84 rfl (lv_at hl 1 rfl) ?_
            refine lv_iconst (v := (1 : Int32)) hx hb dX8_lay_85 (by decide) ?_
            refine cl_i (va_runV (As := [.int (1 : Int32)]) (rest := []) ⟨hx, hb, hml, hown, hts⟩ (qX8_done l dC dI cy y bd H.size (s_shafts o (upd (m_shafts o) (((4 : Int32) * a1) + a2).toNatClampNeg y5)) (1 : Int32)) (cwV 1 hts gX8_lay_X8_done rfl rfl rfl (by decide +kernel) ⟨Nat.le_of_ble_eq_true rfl, Nat.le_of_ble_eq_true rfl⟩) (pV hK hP hD hk (q0 := 0) rfl rfl) rfl rfl hl.1 rfl (lv_room (Nat.le_of_ble_eq_true rfl)) dX8_lay_86 ⟨Nat.le_of_ble_eq_true rfl, Nat.le_of_ble_eq_true rfl⟩) hD hS hA (fun r u H locs hw hP hD hS => ?_)
            have hr1 : r = (jX8_done (s_shafts o (upd (m_shafts o) (((4 : Int32) * a1) + a2).toNatClampNeg y5)) (1 : Int32)).1 := congrArg Prod.fst hw
            have hu1 : u = (jX8_done (s_shafts o (upd (m_shafts o) (((4 : Int32) * a1) + a2).toNatClampNeg y5)) (1 : Int32)).2 := congrArg Prod.snd hw
            rw [hu1] at hP hD
            rw [hr1]
            exact W.iret hx hb hr (fun t ht hW => ⟨⟨_, _, rfl, hJ.trans hE.symm, by rw [ht]; exact hP, va_K.moved hW.alike hK, hD⟩, hS.F ht⟩) hS.2.2 dX8_lay_89
          · skip
            rw [if_neg c8] at hJ
            rw [if_neg c8] at hV
            refine lv_aload_n hx hb dX8_lay_55 rfl (lv_at hl 1 rfl) ?_
            refine va_get (D := (dC, dI)) (ci := 6) (v := .ref (bd 6)) (C := RX8) (T := TX8) (N := 20) (fs := wm_f bd o) hx hb hts hi_wsX80 hown hK hP 0 rfl rfl 8 (by decide) (hts (.fieldLink RX8 31 "OrreryDialsModel" "sortOf" "[I") (by decide +kernel)) (fun _ h9 => h9) rfl dX8_lay_56 ?_
            refine lv_iload hx hb dX8_lay_59 (lv_at hl 0 rfl) ?_
            obtain ⟨hk10, hV⟩ := hV
            refine va_iald hx hb hK hP 7 0 rfl rfl hk10 dX8_lay_61 ?_
            refine lv_if_ne (tgt := 72) hx hb dX8_lay_62 (by decide) (fun c11 => ?_) (fun c11 => ?_)
            · skip
              rw [if_neg c11] at hJ
              rw [if_neg c11] at hV
              refine lv_aload_n hx hb dX8_lay_72 rfl (lv_at hl 1 rfl) ?_
              refine va_get (D := (dC, dI)) (ci := 6) (v := .ref (bd 11)) (C := RX8) (T := TX8) (N := 20) (fs := wm_f bd o) hx hb hts hi_wsX80 hown hK hP 0 rfl rfl 13 (by decide) (hts (.fieldLink RX8 47 "OrreryDialsModel" "shafts" "[I") (by decide +kernel)) (fun _ h9 => h9) rfl dX8_lay_73 ?_
              refine lv_iconst (v := (4 : Int32)) hx hb dX8_lay_76 (by decide) ?_
              refine lv_iload_n hx hb dX8_lay_77 rfl (lv_at hl 2 rfl) ?_
              refine lv_imul hx hb dX8_lay_78 ?_
              refine lv_iload_n hx hb dX8_lay_79 rfl (lv_at hl 3 rfl) ?_
              refine lv_iadd hx hb dX8_lay_80 ?_
              refine lv_iload hx hb dX8_lay_81 (lv_at hl 0 rfl) ?_
              obtain ⟨hk12, hV⟩ := hV
              refine va_iast hx hb hK hP hD hS 12 0 rfl rfl hk12 dX8_lay_83 (fun H locs hP hD hS => ?_)
              rw [wm_a_shafts] at hP hD
              refine lv_aload_n hx hb dX8_lay_84 rfl (lv_at hl 1 rfl) ?_
              refine lv_iconst (v := (1 : Int32)) hx hb dX8_lay_85 (by decide) ?_
              refine cl_i (va_runV (As := [.int (1 : Int32)]) (rest := []) ⟨hx, hb, hml, hown, hts⟩ (qX8_done l dC dI cy y bd H.size (s_shafts o (upd (m_shafts o) (((4 : Int32) * a1) + a2).toNatClampNeg y5)) (1 : Int32)) (cwV 1 hts gX8_lay_X8_done rfl rfl rfl (by decide +kernel) ⟨Nat.le_of_ble_eq_true rfl, Nat.le_of_ble_eq_true rfl⟩) (pV hK hP hD hk (q0 := 0) rfl rfl) rfl rfl hl.1 rfl (lv_room (Nat.le_of_ble_eq_true rfl)) dX8_lay_86 ⟨Nat.le_of_ble_eq_true rfl, Nat.le_of_ble_eq_true rfl⟩) hD hS hA (fun r u H locs hw hP hD hS => ?_)
              have hr1 : r = (jX8_done (s_shafts o (upd (m_shafts o) (((4 : Int32) * a1) + a2).toNatClampNeg y5)) (1 : Int32)).1 := congrArg Prod.fst hw
              have hu1 : u = (jX8_done (s_shafts o (upd (m_shafts o) (((4 : Int32) * a1) + a2).toNatClampNeg y5)) (1 : Int32)).2 := congrArg Prod.snd hw
              rw [hu1] at hP hD
              rw [hr1]
              exact W.iret hx hb hr (fun t ht hW => ⟨⟨_, _, rfl, hJ.trans hE.symm, by rw [ht]; exact hP, va_K.moved hW.alike hK, hD⟩, hS.F ht⟩) hS.2.2 dX8_lay_89
            · skip
              rw [if_pos c11] at hJ
              rw [if_pos c11] at hV
              refine lv_aload_n hx hb dX8_lay_65 rfl (lv_at hl 1 rfl) ?_
              refine lv_bipush (v := (-14 : Int32)) hx hb dX8_lay_66 (by decide) ?_
              obtain ⟨hk13, hV⟩ := hV
              refine cl_i (va_runV (As := [.int (-14 : Int32)]) (rest := []) ⟨hx, hb, hml, hown, hts⟩ (qX8_fails l dC dI cy y bd H.size o (-14 : Int32) hk13) (cwV 1 hts gX8_lay_X8_fails rfl rfl rfl (by decide +kernel) ⟨Nat.le_of_ble_eq_true rfl, Nat.le_of_ble_eq_true rfl⟩) (pV hK hP hD hk (q0 := 0) rfl rfl) rfl rfl hl.1 rfl (lv_room (Nat.le_of_ble_eq_true rfl)) dX8_lay_68 ⟨Nat.le_of_ble_eq_true rfl, Nat.le_of_ble_eq_true rfl⟩) hD hS hA (fun r u H locs hw hP hD hS => ?_)
              have hr1 : r = (jX8_fails o (-14 : Int32)).1 := congrArg Prod.fst hw
              have hu1 : u = (jX8_fails o (-14 : Int32)).2 := congrArg Prod.snd hw
              rw [hu1] at hP hD
              rw [hr1]
              exact W.iret hx hb hr (fun t ht hW => ⟨⟨_, _, rfl, hJ.trans hE.symm, by rw [ht]; exact hP, va_K.moved hW.alike hK, hD⟩, hS.F ht⟩) hS.2.2 dX8_lay_71
      · skip
        rw [if_pos c3] at hJ
        rw [if_pos c3] at hV
        refine lv_aload_n hx hb dX8_lay_29 rfl (lv_at hl 0 rfl) ?_
        refine lv_bipush (v := (-12 : Int32)) hx hb dX8_lay_30 (by decide) ?_
        obtain ⟨hk14, hV⟩ := hV
        refine cl_i (va_runV (As := [.int (-12 : Int32)]) (rest := []) ⟨hx, hb, hml, hown, hts⟩ (qX8_fails l dC dI cy y bd H.size o (-12 : Int32) hk14) (cwV 1 hts gX8_lay_X8_fails rfl rfl rfl (by decide +kernel) ⟨Nat.le_of_ble_eq_true rfl, Nat.le_of_ble_eq_true rfl⟩) (pV hK hP hD hk (q0 := 0) rfl rfl) rfl rfl hl.1 rfl (lv_room (Nat.le_of_ble_eq_true rfl)) dX8_lay_32 ⟨Nat.le_of_ble_eq_true rfl, Nat.le_of_ble_eq_true rfl⟩) hD hS hA (fun r u H locs hw hP hD hS => ?_)
        have hr1 : r = (jX8_fails o (-12 : Int32)).1 := congrArg Prod.fst hw
        have hu1 : u = (jX8_fails o (-12 : Int32)).2 := congrArg Prod.snd hw
        rw [hu1] at hP hD
        rw [hr1]
        exact W.iret hx hb hr (fun t ht hW => ⟨⟨_, _, rfl, hJ.trans hE.symm, by rw [ht]; exact hP, va_K.moved hW.alike hK, hD⟩, hS.F ht⟩) hS.2.2 dX8_lay_35
    · skip
      rw [if_pos c2] at hJ
      rw [if_pos c2] at hV
      refine lv_bipush (v := (-101 : Int32)) hx hb dX8_lay_14 (by decide) ?_
      exact W.iret hx hb hr (fun t ht hW => ⟨⟨_, _, rfl, hJ.trans hE.symm, by rw [ht]; exact hP, va_K.moved hW.alike hK, hD⟩, hS.F ht⟩) hS.2.2 dX8_lay_16
def jX8_wind_y22 (o : Ms) (a1 : Int32) (a2 : Int32) (o5 : Ms) (y6 : Int32) (y10 : Int32) (o14 : Ms) (y15 : Int32) (y19 : Int32) (y22 : Int32) : Int32 × Ms := ((3 : Int32), (jX8_fails ((jX8_pullCause o14 (m_shafts o14 (((4 : Int32) * a1) + (3 : Int32)).toNatClampNeg) a2).2) y19).2)
def sX8_wind_y22 (o : Ms) (a1 : Int32) (a2 : Int32) (o5 : Ms) (y6 : Int32) (y10 : Int32) (o14 : Ms) (y15 : Int32) (y19 : Int32) (y22 : Int32) : Prop := True ∧ True
def jX8_wind_y19 (o : Ms) (a1 : Int32) (a2 : Int32) (o5 : Ms) (y6 : Int32) (y10 : Int32) (o14 : Ms) (y15 : Int32) (y19 : Int32) : Int32 × Ms := (if y19 = 0 then ((4 : Int32), (jX8_pullCause o14 (m_shafts o14 (((4 : Int32) * a1) + (3 : Int32)).toNatClampNeg) a2).2) else (jX8_wind_y22 o a1 a2 o5 y6 y10 o14 y15 y19 ((jX8_fails ((jX8_pullCause o14 (m_shafts o14 (((4 : Int32) * a1) + (3 : Int32)).toNatClampNeg) a2).2) y19).1)))
def sX8_wind_y19 (o : Ms) (a1 : Int32) (a2 : Int32) (o5 : Ms) (y6 : Int32) (y10 : Int32) (o14 : Ms) (y15 : Int32) (y19 : Int32) : Prop := True ∧ (if y19 = 0 then True else (sX8_fails ((jX8_pullCause o14 (m_shafts o14 (((4 : Int32) * a1) + (3 : Int32)).toNatClampNeg) a2).2) y19 ∧ (sX8_wind_y22 o a1 a2 o5 y6 y10 o14 y15 y19 ((jX8_fails ((jX8_pullCause o14 (m_shafts o14 (((4 : Int32) * a1) + (3 : Int32)).toNatClampNeg) a2).2) y19).1))))
def jX8_wind_y24 (o : Ms) (a1 : Int32) (a2 : Int32) (o5 : Ms) (y6 : Int32) (y10 : Int32) (o14 : Ms) (y15 : Int32) (y24 : Int32) : Int32 × Ms := ((2 : Int32), (jX8_fails o14 y15).2)
def sX8_wind_y24 (o : Ms) (a1 : Int32) (a2 : Int32) (o5 : Ms) (y6 : Int32) (y10 : Int32) (o14 : Ms) (y15 : Int32) (y24 : Int32) : Prop := True ∧ True
def jX8_wind_y15 (o : Ms) (a1 : Int32) (a2 : Int32) (o5 : Ms) (y6 : Int32) (y10 : Int32) (o14 : Ms) (y15 : Int32) : Int32 × Ms := (if y15 = 0 then (jX8_wind_y19 o a1 a2 o5 y6 y10 o14 y15 ((jX8_pullCause o14 (m_shafts o14 (((4 : Int32) * a1) + (3 : Int32)).toNatClampNeg) a2).1)) else (jX8_wind_y24 o a1 a2 o5 y6 y10 o14 y15 ((jX8_fails o14 y15).1)))
def sX8_wind_y15 (o : Ms) (a1 : Int32) (a2 : Int32) (o5 : Ms) (y6 : Int32) (y10 : Int32) (o14 : Ms) (y15 : Int32) : Prop := True ∧ (if y15 = 0 then (vp_in (((4 : Int32) * a1) + (3 : Int32)) 8 ∧ (sX8_pullCause o14 (m_shafts o14 (((4 : Int32) * a1) + (3 : Int32)).toNatClampNeg) a2 ∧ (sX8_wind_y19 o a1 a2 o5 y6 y10 o14 y15 ((jX8_pullCause o14 (m_shafts o14 (((4 : Int32) * a1) + (3 : Int32)).toNatClampNeg) a2).1)))) else (sX8_fails o14 y15 ∧ (sX8_wind_y24 o a1 a2 o5 y6 y10 o14 y15 ((jX8_fails o14 y15).1))))
def jX8_wind_o14 (o : Ms) (a1 : Int32) (a2 : Int32) (o5 : Ms) (y6 : Int32) (y10 : Int32) (o14 : Ms) : Int32 × Ms := (jX8_wind_y15 o a1 a2 o5 y6 y10 o14 ((jX8_pullCause ((jX8_pullCause o5 (m_shafts o5 (((4 : Int32) * a1) + (1 : Int32)).toNatClampNeg) a2).2) (m_shafts ((jX8_pullCause o5 (m_shafts o5 (((4 : Int32) * a1) + (1 : Int32)).toNatClampNeg) a2).2) (((4 : Int32) * a1) + (2 : Int32)).toNatClampNeg) a2).1))
def sX8_wind_o14 (o : Ms) (a1 : Int32) (a2 : Int32) (o5 : Ms) (y6 : Int32) (y10 : Int32) (o14 : Ms) : Prop := True ∧ (sX8_wind_y15 o a1 a2 o5 y6 y10 o14 ((jX8_pullCause ((jX8_pullCause o5 (m_shafts o5 (((4 : Int32) * a1) + (1 : Int32)).toNatClampNeg) a2).2) (m_shafts ((jX8_pullCause o5 (m_shafts o5 (((4 : Int32) * a1) + (1 : Int32)).toNatClampNeg) a2).2) (((4 : Int32) * a1) + (2 : Int32)).toNatClampNeg) a2).1))
def jX8_wind_y26 (o : Ms) (a1 : Int32) (a2 : Int32) (o5 : Ms) (y6 : Int32) (y10 : Int32) (y26 : Int32) : Int32 × Ms := ((1 : Int32), (jX8_fails ((jX8_pullCause o5 (m_shafts o5 (((4 : Int32) * a1) + (1 : Int32)).toNatClampNeg) a2).2) y10).2)
def sX8_wind_y26 (o : Ms) (a1 : Int32) (a2 : Int32) (o5 : Ms) (y6 : Int32) (y10 : Int32) (y26 : Int32) : Prop := True ∧ True
def jX8_wind_y10 (o : Ms) (a1 : Int32) (a2 : Int32) (o5 : Ms) (y6 : Int32) (y10 : Int32) : Int32 × Ms := (if y10 = 0 then (jX8_wind_o14 o a1 a2 o5 y6 y10 ((jX8_pullCause ((jX8_pullCause o5 (m_shafts o5 (((4 : Int32) * a1) + (1 : Int32)).toNatClampNeg) a2).2) (m_shafts ((jX8_pullCause o5 (m_shafts o5 (((4 : Int32) * a1) + (1 : Int32)).toNatClampNeg) a2).2) (((4 : Int32) * a1) + (2 : Int32)).toNatClampNeg) a2).2)) else (jX8_wind_y26 o a1 a2 o5 y6 y10 ((jX8_fails ((jX8_pullCause o5 (m_shafts o5 (((4 : Int32) * a1) + (1 : Int32)).toNatClampNeg) a2).2) y10).1)))
def sX8_wind_y10 (o : Ms) (a1 : Int32) (a2 : Int32) (o5 : Ms) (y6 : Int32) (y10 : Int32) : Prop := True ∧ (if y10 = 0 then (vp_in (((4 : Int32) * a1) + (2 : Int32)) 8 ∧ (sX8_pullCause ((jX8_pullCause o5 (m_shafts o5 (((4 : Int32) * a1) + (1 : Int32)).toNatClampNeg) a2).2) (m_shafts ((jX8_pullCause o5 (m_shafts o5 (((4 : Int32) * a1) + (1 : Int32)).toNatClampNeg) a2).2) (((4 : Int32) * a1) + (2 : Int32)).toNatClampNeg) a2 ∧ (sX8_wind_o14 o a1 a2 o5 y6 y10 ((jX8_pullCause ((jX8_pullCause o5 (m_shafts o5 (((4 : Int32) * a1) + (1 : Int32)).toNatClampNeg) a2).2) (m_shafts ((jX8_pullCause o5 (m_shafts o5 (((4 : Int32) * a1) + (1 : Int32)).toNatClampNeg) a2).2) (((4 : Int32) * a1) + (2 : Int32)).toNatClampNeg) a2).2)))) else (sX8_fails ((jX8_pullCause o5 (m_shafts o5 (((4 : Int32) * a1) + (1 : Int32)).toNatClampNeg) a2).2) y10 ∧ (sX8_wind_y26 o a1 a2 o5 y6 y10 ((jX8_fails ((jX8_pullCause o5 (m_shafts o5 (((4 : Int32) * a1) + (1 : Int32)).toNatClampNeg) a2).2) y10).1))))
def jX8_wind_y28 (o : Ms) (a1 : Int32) (a2 : Int32) (o5 : Ms) (y6 : Int32) (y28 : Int32) : Int32 × Ms := ((0 : Int32), (jX8_fails o5 y6).2)
def sX8_wind_y28 (o : Ms) (a1 : Int32) (a2 : Int32) (o5 : Ms) (y6 : Int32) (y28 : Int32) : Prop := True ∧ True
def jX8_wind_y6 (o : Ms) (a1 : Int32) (a2 : Int32) (o5 : Ms) (y6 : Int32) : Int32 × Ms := (if y6 = 0 then (jX8_wind_y10 o a1 a2 o5 y6 ((jX8_pullCause o5 (m_shafts o5 (((4 : Int32) * a1) + (1 : Int32)).toNatClampNeg) a2).1)) else (jX8_wind_y28 o a1 a2 o5 y6 ((jX8_fails o5 y6).1)))
def sX8_wind_y6 (o : Ms) (a1 : Int32) (a2 : Int32) (o5 : Ms) (y6 : Int32) : Prop := True ∧ (if y6 = 0 then (vp_in (((4 : Int32) * a1) + (1 : Int32)) 8 ∧ (sX8_pullCause o5 (m_shafts o5 (((4 : Int32) * a1) + (1 : Int32)).toNatClampNeg) a2 ∧ (sX8_wind_y10 o a1 a2 o5 y6 ((jX8_pullCause o5 (m_shafts o5 (((4 : Int32) * a1) + (1 : Int32)).toNatClampNeg) a2).1)))) else (sX8_fails o5 y6 ∧ (sX8_wind_y28 o a1 a2 o5 y6 ((jX8_fails o5 y6).1))))
def jX8_wind_o5 (o : Ms) (a1 : Int32) (a2 : Int32) (o5 : Ms) : Int32 × Ms := (jX8_wind_y6 o a1 a2 o5 ((jX8_pullCause (s_failed o (0 : Int32)) (m_shafts (s_failed o (0 : Int32)) (((4 : Int32) * a1) + (0 : Int32)).toNatClampNeg) a2).1))
def sX8_wind_o5 (o : Ms) (a1 : Int32) (a2 : Int32) (o5 : Ms) : Prop := True ∧ (sX8_wind_y6 o a1 a2 o5 ((jX8_pullCause (s_failed o (0 : Int32)) (m_shafts (s_failed o (0 : Int32)) (((4 : Int32) * a1) + (0 : Int32)).toNatClampNeg) a2).1))
def jX8_wind (o : Ms) (a1 : Int32) (a2 : Int32) : Int32 × Ms := (if (jX8_isShaft a1) = 0 then ((-101 : Int32), o) else (if (jX8_isDial o a2) = 0 then ((-101 : Int32), o) else (jX8_wind_o5 o a1 a2 ((jX8_pullCause (s_failed o (0 : Int32)) (m_shafts (s_failed o (0 : Int32)) (((4 : Int32) * a1) + (0 : Int32)).toNatClampNeg) a2).2))))
def sX8_wind (o : Ms) (a1 : Int32) (a2 : Int32) : Prop := True ∧ (if (jX8_isShaft a1) = 0 then True else (if (jX8_isDial o a2) = 0 then True else (vp_in (((4 : Int32) * a1) + (0 : Int32)) 8 ∧ (sX8_pullCause (s_failed o (0 : Int32)) (m_shafts (s_failed o (0 : Int32)) (((4 : Int32) * a1) + (0 : Int32)).toNatClampNeg) a2 ∧ (sX8_wind_o5 o a1 a2 ((jX8_pullCause (s_failed o (0 : Int32)) (m_shafts (s_failed o (0 : Int32)) (((4 : Int32) * a1) + (0 : Int32)).toNatClampNeg) a2).2))))))
set_option linter.constructorNameAsVariable false in
set_option maxHeartbeats 8000000 in
set_option maxRecDepth 100000 in
theorem qX8_wind (l : Launch) (dC : Nat → ClassId) (dI : Nat → Nat → Nat) (cy : Nat → ClassId) (y : Nat) (bd : Nat → Nat) (sz : Nat) (o : Ms) (a1 : Int32) (a2 : Int32) (hV : sX8_wind o a1 a2) : Met l yX8_wind wsX8_wind ({ frames := 4, cells := 0, slots := 0, locals := 99 }) (va_Pc [.ref y, .int a1, .int a2] (wI (dC, dI) (tyA cy) (WM cy y bd o) sz)) (va_Qi (fun r u => (r, u) = jX8_wind o a1 a2) (fun u t => wO (dC, dI) (tyA cy) (va_A (WM cy y bd o) sz) (WM cy y bd u) t) (va_A (WM cy y bd o) sz)) 0 0 (va_A (WM cy y bd o) sz) := by
  refine Met.ofW (cc := cX8_wind) (maxL := 5) (ret := some .int) (by decide) rfl ?_
  intro p e s m args below meth c s₁ B hml hv
  obtain ⟨rfl, hsz, hP, hK, hD0, hk⟩ := hv
  have hx := B.exec
  have hb := B.bytes
  have hr := B.returns
  have hts := atoms_spec (ws := wsX8_wind) B.pre
  have hown : s.vm.findClass RX8 = some m.cls := findClass_of_methodNamed B.named
  have hlocks := B.notSynchronized
  subst hsz
  have hD := hD0.self (sz := s.heap.size)
  generalize hAe : va_A (WM cy y bd o) s.heap.size = A at hD ⊢
  have hA : ∀ q : Nat, s.heap.size ≤ q → A q := fun q h => by rw [← hAe]; exact Or.inr h
  obtain ⟨H, hHe⟩ : ∃ H, s.heap = H := ⟨_, rfl⟩
  have hP : va_P (dC, dI) vwCl (WM cy y bd o) H := by rw [← hHe]; exact hP
  have hS : va_S A s.heap H [] := by rw [← hHe]; exact va_S.rf
  rw [w_heap hHe]
  have hi_wsX80 : ∀ w ∈ wsX80, w ∈ wsX8_wind := fun _ h => List.mem_cons_of_mem _ (List.mem_append_right _ h)
  obtain ⟨JR, hE⟩ : ∃ q, jX8_wind o a1 a2 = q := ⟨_, rfl⟩
  have hJ := hE
  rw [jX8_wind] at hJ
  rw [sX8_wind] at hV
  have hV := hV.2
  have hl := lv_entry ([.ref y, .int a1, .int a2]) (n := 5) (Nat.le_of_ble_eq_true rfl)
  rw [lg_entry_eq]
  generalize (lg_sl ([.ref y, .int a1, .int a2]) ++ List.replicate (5 - (lg_sl ([.ref y, .int a1, .int a2])).length) Slot.unset).toArray = ls at hl ⊢
  have hl : lv_has ls 5 [(0, .ref y), (1, .int a1), (2, .int a2)] := hl
  refine lv_iload_n hx hb dX8_wind_0 rfl (lv_at hl 1 rfl) ?_
  refine vp_callSi (W.runS (As := [.int a1]) (rest := []) ⟨hx, hb, hml, hown, hts⟩ (qX8_isShaft l a1) (va_cwS 1 hts gX8_wind_X8_isShaft rfl rfl rfl (by decide +kernel) ⟨Nat.le_of_ble_eq_true rfl, Nat.le_of_ble_eq_true rfl⟩) ⟨fun _ _ _ _ q => q, fun U hU hW => rfl⟩ rfl rfl hl.1 rfl (lv_room (Nat.le_of_ble_eq_true rfl)) dX8_wind_1 ⟨Nat.le_of_ble_eq_true rfl, Nat.le_of_ble_eq_true rfl⟩) (fun r hq9 => ?_)
  rw [hq9]
  refine lv_if_eq (tgt := 15) hx hb dX8_wind_4 (by decide) (fun c1 => ?_) (fun c1 => ?_)
  · skip
    rw [if_pos c1] at hJ
    rw [if_pos c1] at hV
    refine lv_bipush (v := (-101 : Int32)) hx hb dX8_wind_15 (by decide) ?_
    exact W.iret hx hb hr (fun t ht hW => ⟨⟨_, _, rfl, hJ.trans hE.symm, by rw [ht]; exact hP, va_K.moved hW.alike hK, hD⟩, hS.F ht⟩) hS.2.2 dX8_wind_17
  · skip
    rw [if_neg c1] at hJ
    rw [if_neg c1] at hV
    refine lv_aload_n hx hb dX8_wind_7 rfl (lv_at hl 0 rfl) ?_
    refine lv_iload_n hx hb dX8_wind_8 rfl (lv_at hl 2 rfl) ?_
    refine vp_callSi (W.runV (As := [.int a2]) (rest := []) ⟨hx, hb, hml, hown, hts⟩ (qX8_isDial l dC dI cy y bd H.size o a2) (cwV 1 hts gX8_wind_X8_isDial rfl rfl rfl (by decide +kernel) ⟨Nat.le_of_ble_eq_true rfl, Nat.le_of_ble_eq_true rfl⟩) (pV hK hP hD hk (q0 := 0) rfl rfl) rfl rfl hl.1 rfl (lv_room (Nat.le_of_ble_eq_true rfl)) dX8_wind_9 ⟨Nat.le_of_ble_eq_true rfl, Nat.le_of_ble_eq_true rfl⟩) (fun r hq9 => ?_)
    rw [hq9]
    refine lv_if_ne (tgt := 18) hx hb dX8_wind_12 (by decide) (fun c2 => ?_) (fun c2 => ?_)
    · skip
      rw [if_neg c2] at hJ
      rw [if_neg c2] at hV
      refine lv_aload_n hx hb dX8_wind_18 rfl (lv_at hl 0 rfl) ?_
      refine lv_iconst (v := (0 : Int32)) hx hb dX8_wind_19 (by decide) ?_
      refine va_put (D := (dC, dI)) (ci := 6) (v := .int (0 : Int32)) (ty := .int) (C := RX8) (T := TX8) (N := 20) (fs := wm_f bd o) hx hb hts hi_wsX80 tyX8 tyX8_ok nmX8 hown hK hP hD hS 0 rfl rfl 18 (by decide) (hts (.fieldLink RX8 66 "OrreryDialsModel" "failed" "I") (by decide +kernel)) (fun _ h9 => h9) rfl (by decide +kernel) rfl rfl (by rw [wm_len]; decide) dX8_wind_20 (fun H locs hP hD hS => ?_)
      rw [wm_p_failed] at hP hD
      refine lv_iconst (v := (0 : Int32)) hx hb dX8_wind_23 (by decide) ?_
      refine lv_istore_n (lv' := [(3, .int (0 : Int32)), (0, .ref y), (1, .int a1), (2, .int a2)]) hx hb dX8_wind_24 rfl hl (by decide) rfl (fun ls hl => ?_)
      refine lv_iload_n hx hb dX8_wind_25 rfl (lv_at hl 0 rfl) ?_
      refine lv_iconst (v := (4 : Int32)) hx hb dX8_wind_26 (by decide) ?_
      refine lv_icmp_ge (tgt := 68) hx hb dX8_wind_27 (by decide) (fun cq => absurd cq (by decide)) (fun cq => ?_)
      refine lv_aload_n hx hb dX8_wind_30 rfl (lv_at hl 1 rfl) ?_
      refine lv_aload_n hx hb dX8_wind_31 rfl (lv_at hl 1 rfl) ?_
      refine va_get (D := (dC, dI)) (ci := 6) (v := .ref (bd 11)) (C := RX8) (T := TX8) (N := 20) (fs := wm_f bd (s_failed o (0 : Int32))) hx hb hts hi_wsX80 hown hK hP 0 rfl rfl 13 (by decide) (hts (.fieldLink RX8 47 "OrreryDialsModel" "shafts" "[I") (by decide +kernel)) (fun _ h9 => h9) rfl dX8_wind_32 ?_
      refine lv_iconst (v := (4 : Int32)) hx hb dX8_wind_35 (by decide) ?_
      refine lv_iload_n hx hb dX8_wind_36 rfl (lv_at hl 2 rfl) ?_
      refine lv_imul hx hb dX8_wind_37 ?_
      refine lv_iload_n hx hb dX8_wind_38 rfl (lv_at hl 0 rfl) ?_
      refine lv_iadd hx hb dX8_wind_39 ?_
      obtain ⟨hk3, hV⟩ := hV
      refine va_iald hx hb hK hP 12 0 rfl rfl hk3 dX8_wind_40 ?_
      refine lv_iload_n hx hb dX8_wind_41 rfl (lv_at hl 3 rfl) ?_
      obtain ⟨hk4, hV⟩ := hV
      refine cl_i (va_runV (As := [.int (m_shafts (s_failed o (0 : Int32)) (((4 : Int32) * a1) + (0 : Int32)).toNatClampNeg), .int a2]) (rest := []) ⟨hx, hb, hml, hown, hts⟩ (qX8_pullCause l dC dI cy y bd H.size (s_failed o (0 : Int32)) (m_shafts (s_failed o (0 : Int32)) (((4 : Int32) * a1) + (0 : Int32)).toNatClampNeg) a2 hk4) (cwV 2 hts gX8_wind_X8_pullCause rfl rfl rfl (by decide +kernel) ⟨Nat.le_of_ble_eq_true rfl, Nat.le_of_ble_eq_true rfl⟩) (pV hK hP hD hk (q0 := 0) rfl rfl) rfl rfl hl.1 rfl (lv_room (Nat.le_of_ble_eq_true rfl)) dX8_wind_42 ⟨Nat.le_of_ble_eq_true rfl, Nat.le_of_ble_eq_true rfl⟩) hD hS hA (fun r u H locs hw hP hD hS => ?_)
      have hr1 : r = (jX8_pullCause (s_failed o (0 : Int32)) (m_shafts (s_failed o (0 : Int32)) (((4 : Int32) * a1) + (0 : Int32)).toNatClampNeg) a2).1 := congrArg Prod.fst hw
      have hu1 : u = (jX8_pullCause (s_failed o (0 : Int32)) (m_shafts (s_failed o (0 : Int32)) (((4 : Int32) * a1) + (0 : Int32)).toNatClampNeg) a2).2 := congrArg Prod.snd hw
      rw [hu1] at hP hD
      rw [hr1]
      obtain ⟨o5, eo5⟩ : ∃ z, z = (jX8_pullCause (s_failed o (0 : Int32)) (m_shafts (s_failed o (0 : Int32)) (((4 : Int32) * a1) + (0 : Int32)).toNatClampNeg) a2).2 := ⟨_, rfl⟩
      rw [← eo5] at hP hD hJ hV
      rw [jX8_wind_o5] at hJ
      rw [sX8_wind_o5] at hV
      have hV := hV.2
      refine lv_topi (fun y6 ey6 => ?_)
      rw [← ey6] at hJ
      rw [jX8_wind_y6] at hJ
      rw [← ey6] at hV
      rw [sX8_wind_y6] at hV
      have hV := hV.2
      refine lv_istore (lv' := [(4, .int y6), (3, .int (0 : Int32)), (0, .ref y), (1, .int a1), (2, .int a2)]) hx hb dX8_wind_45 hl (by decide) rfl (fun ls hl => ?_)
      refine lv_iload hx hb dX8_wind_47 (lv_at hl 0 rfl) ?_
      refine lv_if_eq (tgt := 62) hx hb dX8_wind_49 (by decide) (fun c7 => ?_) (fun c7 => ?_)
      · skip
        rw [if_pos c7] at hJ
        rw [if_pos c7] at hV
        refine lv_iinc (v := (1 : Int32)) (lv' := [(3, .int (1 : Int32)), (4, .int y6), (0, .ref y), (1, .int a1), (2, .int a2)]) hx hb dX8_wind_62 hl (k := 1) rfl (by first | rfl | decide) (by decide) rfl (fun ls hl => ?_)
        refine lv_goto (tgt := 25) hx hb dX8_wind_65 (by decide) ?_
        refine lv_iload_n hx hb dX8_wind_25 rfl (lv_at hl 0 rfl) ?_
        refine lv_iconst (v := (4 : Int32)) hx hb dX8_wind_26 (by decide) ?_
        refine lv_icmp_ge (tgt := 68) hx hb dX8_wind_27 (by decide) (fun cq => absurd cq (by decide)) (fun cq => ?_)
        refine lv_aload_n hx hb dX8_wind_30 rfl (lv_at hl 2 rfl) ?_
        refine lv_aload_n hx hb dX8_wind_31 rfl (lv_at hl 2 rfl) ?_
        refine va_get (D := (dC, dI)) (ci := 6) (v := .ref (bd 11)) (C := RX8) (T := TX8) (N := 20) (fs := wm_f bd o5) hx hb hts hi_wsX80 hown hK hP 0 rfl rfl 13 (by decide) (hts (.fieldLink RX8 47 "OrreryDialsModel" "shafts" "[I") (by decide +kernel)) (fun _ h9 => h9) rfl dX8_wind_32 ?_
        refine lv_iconst (v := (4 : Int32)) hx hb dX8_wind_35 (by decide) ?_
        refine lv_iload_n hx hb dX8_wind_36 rfl (lv_at hl 3 rfl) ?_
        refine lv_imul hx hb dX8_wind_37 ?_
        refine lv_iload_n hx hb dX8_wind_38 rfl (lv_at hl 0 rfl) ?_
        refine lv_iadd hx hb dX8_wind_39 ?_
        obtain ⟨hk8, hV⟩ := hV
        refine va_iald hx hb hK hP 12 0 rfl rfl hk8 dX8_wind_40 ?_
        refine lv_iload_n hx hb dX8_wind_41 rfl (lv_at hl 4 rfl) ?_
        obtain ⟨hk9, hV⟩ := hV
        refine cl_i (va_runV (As := [.int (m_shafts o5 (((4 : Int32) * a1) + (1 : Int32)).toNatClampNeg), .int a2]) (rest := []) ⟨hx, hb, hml, hown, hts⟩ (qX8_pullCause l dC dI cy y bd H.size o5 (m_shafts o5 (((4 : Int32) * a1) + (1 : Int32)).toNatClampNeg) a2 hk9) (cwV 2 hts gX8_wind_X8_pullCause rfl rfl rfl (by decide +kernel) ⟨Nat.le_of_ble_eq_true rfl, Nat.le_of_ble_eq_true rfl⟩) (pV hK hP hD hk (q0 := 0) rfl rfl) rfl rfl hl.1 rfl (lv_room (Nat.le_of_ble_eq_true rfl)) dX8_wind_42 ⟨Nat.le_of_ble_eq_true rfl, Nat.le_of_ble_eq_true rfl⟩) hD hS hA (fun r u H locs hw hP hD hS => ?_)
        have hr1 : r = (jX8_pullCause o5 (m_shafts o5 (((4 : Int32) * a1) + (1 : Int32)).toNatClampNeg) a2).1 := congrArg Prod.fst hw
        have hu1 : u = (jX8_pullCause o5 (m_shafts o5 (((4 : Int32) * a1) + (1 : Int32)).toNatClampNeg) a2).2 := congrArg Prod.snd hw
        rw [hu1] at hP hD
        rw [hr1]
        refine lv_topi (fun y10 ey10 => ?_)
        rw [← ey10] at hJ
        rw [jX8_wind_y10] at hJ
        rw [← ey10] at hV
        rw [sX8_wind_y10] at hV
        have hV := hV.2
        refine lv_istore (lv' := [(4, .int y10), (3, .int (1 : Int32)), (0, .ref y), (1, .int a1), (2, .int a2)]) hx hb dX8_wind_45 hl (by decide) rfl (fun ls hl => ?_)
        refine lv_iload hx hb dX8_wind_47 (lv_at hl 0 rfl) ?_
        refine lv_if_eq (tgt := 62) hx hb dX8_wind_49 (by decide) (fun c11 => ?_) (fun c11 => ?_)
        · skip
          rw [if_pos c11] at hJ
          rw [if_pos c11] at hV
          refine lv_iinc (v := (2 : Int32)) (lv' := [(3, .int (2 : Int32)), (4, .int y10), (0, .ref y), (1, .int a1), (2, .int a2)]) hx hb dX8_wind_62 hl (k := 1) rfl (by first | rfl | decide) (by decide) rfl (fun ls hl => ?_)
          refine lv_goto (tgt := 25) hx hb dX8_wind_65 (by decide) ?_
          refine lv_iload_n hx hb dX8_wind_25 rfl (lv_at hl 0 rfl) ?_
          refine lv_iconst (v := (4 : Int32)) hx hb dX8_wind_26 (by decide) ?_
          refine lv_icmp_ge (tgt := 68) hx hb dX8_wind_27 (by decide) (fun cq => absurd cq (by decide)) (fun cq => ?_)
          refine lv_aload_n hx hb dX8_wind_30 rfl (lv_at hl 2 rfl) ?_
          refine lv_aload_n hx hb dX8_wind_31 rfl (lv_at hl 2 rfl) ?_
          refine va_get (D := (dC, dI)) (ci := 6) (v := .ref (bd 11)) (C := RX8) (T := TX8) (N := 20) (fs := wm_f bd ((jX8_pullCause o5 (m_shafts o5 (((4 : Int32) * a1) + (1 : Int32)).toNatClampNeg) a2).2)) hx hb hts hi_wsX80 hown hK hP 0 rfl rfl 13 (by decide) (hts (.fieldLink RX8 47 "OrreryDialsModel" "shafts" "[I") (by decide +kernel)) (fun _ h9 => h9) rfl dX8_wind_32 ?_
          refine lv_iconst (v := (4 : Int32)) hx hb dX8_wind_35 (by decide) ?_
          refine lv_iload_n hx hb dX8_wind_36 rfl (lv_at hl 3 rfl) ?_
          refine lv_imul hx hb dX8_wind_37 ?_
          refine lv_iload_n hx hb dX8_wind_38 rfl (lv_at hl 0 rfl) ?_
          refine lv_iadd hx hb dX8_wind_39 ?_
          obtain ⟨hk12, hV⟩ := hV
          refine va_iald hx hb hK hP 12 0 rfl rfl hk12 dX8_wind_40 ?_
          refine lv_iload_n hx hb dX8_wind_41 rfl (lv_at hl 4 rfl) ?_
          obtain ⟨hk13, hV⟩ := hV
          refine cl_i (va_runV (As := [.int (m_shafts ((jX8_pullCause o5 (m_shafts o5 (((4 : Int32) * a1) + (1 : Int32)).toNatClampNeg) a2).2) (((4 : Int32) * a1) + (2 : Int32)).toNatClampNeg), .int a2]) (rest := []) ⟨hx, hb, hml, hown, hts⟩ (qX8_pullCause l dC dI cy y bd H.size ((jX8_pullCause o5 (m_shafts o5 (((4 : Int32) * a1) + (1 : Int32)).toNatClampNeg) a2).2) (m_shafts ((jX8_pullCause o5 (m_shafts o5 (((4 : Int32) * a1) + (1 : Int32)).toNatClampNeg) a2).2) (((4 : Int32) * a1) + (2 : Int32)).toNatClampNeg) a2 hk13) (cwV 2 hts gX8_wind_X8_pullCause rfl rfl rfl (by decide +kernel) ⟨Nat.le_of_ble_eq_true rfl, Nat.le_of_ble_eq_true rfl⟩) (pV hK hP hD hk (q0 := 0) rfl rfl) rfl rfl hl.1 rfl (lv_room (Nat.le_of_ble_eq_true rfl)) dX8_wind_42 ⟨Nat.le_of_ble_eq_true rfl, Nat.le_of_ble_eq_true rfl⟩) hD hS hA (fun r u H locs hw hP hD hS => ?_)
          have hr1 : r = (jX8_pullCause ((jX8_pullCause o5 (m_shafts o5 (((4 : Int32) * a1) + (1 : Int32)).toNatClampNeg) a2).2) (m_shafts ((jX8_pullCause o5 (m_shafts o5 (((4 : Int32) * a1) + (1 : Int32)).toNatClampNeg) a2).2) (((4 : Int32) * a1) + (2 : Int32)).toNatClampNeg) a2).1 := congrArg Prod.fst hw
          have hu1 : u = (jX8_pullCause ((jX8_pullCause o5 (m_shafts o5 (((4 : Int32) * a1) + (1 : Int32)).toNatClampNeg) a2).2) (m_shafts ((jX8_pullCause o5 (m_shafts o5 (((4 : Int32) * a1) + (1 : Int32)).toNatClampNeg) a2).2) (((4 : Int32) * a1) + (2 : Int32)).toNatClampNeg) a2).2 := congrArg Prod.snd hw
          rw [hu1] at hP hD
          rw [hr1]
          obtain ⟨o14, eo14⟩ : ∃ z, z = (jX8_pullCause ((jX8_pullCause o5 (m_shafts o5 (((4 : Int32) * a1) + (1 : Int32)).toNatClampNeg) a2).2) (m_shafts ((jX8_pullCause o5 (m_shafts o5 (((4 : Int32) * a1) + (1 : Int32)).toNatClampNeg) a2).2) (((4 : Int32) * a1) + (2 : Int32)).toNatClampNeg) a2).2 := ⟨_, rfl⟩
          rw [← eo14] at hP hD hJ hV
          rw [jX8_wind_o14] at hJ
          rw [sX8_wind_o14] at hV
          have hV := hV.2
          refine lv_topi (fun y15 ey15 => ?_)
          rw [← ey15] at hJ
          rw [jX8_wind_y15] at hJ
          rw [← ey15] at hV
          rw [sX8_wind_y15] at hV
          have hV := hV.2
          refine lv_istore (lv' := [(4, .int y15), (3, .int (2 : Int32)), (0, .ref y), (1, .int a1), (2, .int a2)]) hx hb dX8_wind_45 hl (by decide) rfl (fun ls hl => ?_)
          refine lv_iload hx hb dX8_wind_47 (lv_at hl 0 rfl) ?_
          refine lv_if_eq (tgt := 62) hx hb dX8_wind_49 (by decide) (fun c16 => ?_) (fun c16 => ?_)
          · skip
            rw [if_pos c16] at hJ
            rw [if_pos c16] at hV
            refine lv_iinc (v := (3 : Int32)) (lv' := [(3, .int (3 : Int32)), (4, .int y15), (0, .ref y), (1, .int a1), (2, .int a2)]) hx hb dX8_wind_62 hl (k := 1) rfl (by first | rfl | decide) (by decide) rfl (fun ls hl => ?_)
            refine lv_goto (tgt := 25) hx hb dX8_wind_65 (by decide) ?_
            refine lv_iload_n hx hb dX8_wind_25 rfl (lv_at hl 0 rfl) ?_
            refine lv_iconst (v := (4 : Int32)) hx hb dX8_wind_26 (by decide) ?_
            refine lv_icmp_ge (tgt := 68) hx hb dX8_wind_27 (by decide) (fun cq => absurd cq (by decide)) (fun cq => ?_)
            refine lv_aload_n hx hb dX8_wind_30 rfl (lv_at hl 2 rfl) ?_
            refine lv_aload_n hx hb dX8_wind_31 rfl (lv_at hl 2 rfl) ?_
            refine va_get (D := (dC, dI)) (ci := 6) (v := .ref (bd 11)) (C := RX8) (T := TX8) (N := 20) (fs := wm_f bd o14) hx hb hts hi_wsX80 hown hK hP 0 rfl rfl 13 (by decide) (hts (.fieldLink RX8 47 "OrreryDialsModel" "shafts" "[I") (by decide +kernel)) (fun _ h9 => h9) rfl dX8_wind_32 ?_
            refine lv_iconst (v := (4 : Int32)) hx hb dX8_wind_35 (by decide) ?_
            refine lv_iload_n hx hb dX8_wind_36 rfl (lv_at hl 3 rfl) ?_
            refine lv_imul hx hb dX8_wind_37 ?_
            refine lv_iload_n hx hb dX8_wind_38 rfl (lv_at hl 0 rfl) ?_
            refine lv_iadd hx hb dX8_wind_39 ?_
            obtain ⟨hk17, hV⟩ := hV
            refine va_iald hx hb hK hP 12 0 rfl rfl hk17 dX8_wind_40 ?_
            refine lv_iload_n hx hb dX8_wind_41 rfl (lv_at hl 4 rfl) ?_
            obtain ⟨hk18, hV⟩ := hV
            refine cl_i (va_runV (As := [.int (m_shafts o14 (((4 : Int32) * a1) + (3 : Int32)).toNatClampNeg), .int a2]) (rest := []) ⟨hx, hb, hml, hown, hts⟩ (qX8_pullCause l dC dI cy y bd H.size o14 (m_shafts o14 (((4 : Int32) * a1) + (3 : Int32)).toNatClampNeg) a2 hk18) (cwV 2 hts gX8_wind_X8_pullCause rfl rfl rfl (by decide +kernel) ⟨Nat.le_of_ble_eq_true rfl, Nat.le_of_ble_eq_true rfl⟩) (pV hK hP hD hk (q0 := 0) rfl rfl) rfl rfl hl.1 rfl (lv_room (Nat.le_of_ble_eq_true rfl)) dX8_wind_42 ⟨Nat.le_of_ble_eq_true rfl, Nat.le_of_ble_eq_true rfl⟩) hD hS hA (fun r u H locs hw hP hD hS => ?_)
            have hr1 : r = (jX8_pullCause o14 (m_shafts o14 (((4 : Int32) * a1) + (3 : Int32)).toNatClampNeg) a2).1 := congrArg Prod.fst hw
            have hu1 : u = (jX8_pullCause o14 (m_shafts o14 (((4 : Int32) * a1) + (3 : Int32)).toNatClampNeg) a2).2 := congrArg Prod.snd hw
            rw [hu1] at hP hD
            rw [hr1]
            refine lv_topi (fun y19 ey19 => ?_)
            rw [← ey19] at hJ
            rw [jX8_wind_y19] at hJ
            rw [← ey19] at hV
            rw [sX8_wind_y19] at hV
            have hV := hV.2
            refine lv_istore (lv' := [(4, .int y19), (3, .int (3 : Int32)), (0, .ref y), (1, .int a1), (2, .int a2)]) hx hb dX8_wind_45 hl (by decide) rfl (fun ls hl => ?_)
            refine lv_iload hx hb dX8_wind_47 (lv_at hl 0 rfl) ?_
            refine lv_if_eq (tgt := 62) hx hb dX8_wind_49 (by decide) (fun c20 => ?_) (fun c20 => ?_)
            · skip
              rw [if_pos c20] at hJ
              rw [if_pos c20] at hV
              refine lv_iinc (v := (4 : Int32)) (lv' := [(3, .int (4 : Int32)), (4, .int y19), (0, .ref y), (1, .int a1), (2, .int a2)]) hx hb dX8_wind_62 hl (k := 1) rfl (by first | rfl | decide) (by decide) rfl (fun ls hl => ?_)
              refine lv_goto (tgt := 25) hx hb dX8_wind_65 (by decide) ?_
              refine lv_iload_n hx hb dX8_wind_25 rfl (lv_at hl 0 rfl) ?_
              refine lv_iconst (v := (4 : Int32)) hx hb dX8_wind_26 (by decide) ?_
              refine lv_icmp_ge (tgt := 68) hx hb dX8_wind_27 (by decide) (fun cq => ?_) (fun cq => absurd cq (by decide))
              refine lv_iconst (v := (4 : Int32)) hx hb dX8_wind_68 (by decide) ?_
              exact W.iret hx hb hr (fun t ht hW => ⟨⟨_, _, rfl, hJ.trans hE.symm, by rw [ht]; exact hP, va_K.moved hW.alike hK, hD⟩, hS.F ht⟩) hS.2.2 dX8_wind_69
            · skip
              rw [if_neg c20] at hJ
              rw [if_neg c20] at hV
              refine lv_aload_n hx hb dX8_wind_52 rfl (lv_at hl 2 rfl) ?_
              refine lv_iload hx hb dX8_wind_53 (lv_at hl 0 rfl) ?_
              obtain ⟨hk21, hV⟩ := hV
              refine cl_i (va_runV (As := [.int y19]) (rest := []) ⟨hx, hb, hml, hown, hts⟩ (qX8_fails l dC dI cy y bd H.size ((jX8_pullCause o14 (m_shafts o14 (((4 : Int32) * a1) + (3 : Int32)).toNatClampNeg) a2).2) y19 hk21) (cwV 1 hts gX8_wind_X8_fails rfl rfl rfl (by decide +kernel) ⟨Nat.le_of_ble_eq_true rfl, Nat.le_of_ble_eq_true rfl⟩) (pV hK hP hD hk (q0 := 0) rfl rfl) rfl rfl hl.1 rfl (lv_room (Nat.le_of_ble_eq_true rfl)) dX8_wind_55 ⟨Nat.le_of_ble_eq_true rfl, Nat.le_of_ble_eq_true rfl⟩) hD hS hA (fun r u H locs hw hP hD hS => ?_)
              have hr1 : r = (jX8_fails ((jX8_pullCause o14 (m_shafts o14 (((4 : Int32) * a1) + (3 : Int32)).toNatClampNeg) a2).2) y19).1 := congrArg Prod.fst hw
              have hu1 : u = (jX8_fails ((jX8_pullCause o14 (m_shafts o14 (((4 : Int32) * a1) + (3 : Int32)).toNatClampNeg) a2).2) y19).2 := congrArg Prod.snd hw
              rw [hu1] at hP hD
              rw [hr1]
              refine lv_topi (fun y22 ey22 => ?_)
              rw [← ey22] at hJ
              rw [jX8_wind_y22] at hJ
              rw [← ey22] at hV
              rw [sX8_wind_y22] at hV
              have hV := hV.2
              refine lv_istore (lv' := [(4, .int y22), (3, .int (3 : Int32)), (0, .ref y), (1, .int a1), (2, .int a2)]) hx hb dX8_wind_58 hl (by decide) rfl (fun ls hl => ?_)
              refine lv_iload_n hx hb dX8_wind_60 rfl (lv_at hl 1 rfl) ?_
              exact W.iret hx hb hr (fun t ht hW => ⟨⟨_, _, rfl, hJ.trans hE.symm, by rw [ht]; exact hP, va_K.moved hW.alike hK, hD⟩, hS.F ht⟩) hS.2.2 dX8_wind_61
          · skip
            rw [if_neg c16] at hJ
            rw [if_neg c16] at hV
            refine lv_aload_n hx hb dX8_wind_52 rfl (lv_at hl 2 rfl) ?_
            refine lv_iload hx hb dX8_wind_53 (lv_at hl 0 rfl) ?_
            obtain ⟨hk23, hV⟩ := hV
            refine cl_i (va_runV (As := [.int y15]) (rest := []) ⟨hx, hb, hml, hown, hts⟩ (qX8_fails l dC dI cy y bd H.size o14 y15 hk23) (cwV 1 hts gX8_wind_X8_fails rfl rfl rfl (by decide +kernel) ⟨Nat.le_of_ble_eq_true rfl, Nat.le_of_ble_eq_true rfl⟩) (pV hK hP hD hk (q0 := 0) rfl rfl) rfl rfl hl.1 rfl (lv_room (Nat.le_of_ble_eq_true rfl)) dX8_wind_55 ⟨Nat.le_of_ble_eq_true rfl, Nat.le_of_ble_eq_true rfl⟩) hD hS hA (fun r u H locs hw hP hD hS => ?_)
            have hr1 : r = (jX8_fails o14 y15).1 := congrArg Prod.fst hw
            have hu1 : u = (jX8_fails o14 y15).2 := congrArg Prod.snd hw
            rw [hu1] at hP hD
            rw [hr1]
            refine lv_topi (fun y24 ey24 => ?_)
            rw [← ey24] at hJ
            rw [jX8_wind_y24] at hJ
            rw [← ey24] at hV
            rw [sX8_wind_y24] at hV
            have hV := hV.2
            refine lv_istore (lv' := [(4, .int y24), (3, .int (2 : Int32)), (0, .ref y), (1, .int a1), (2, .int a2)]) hx hb dX8_wind_58 hl (by decide) rfl (fun ls hl => ?_)
            refine lv_iload_n hx hb dX8_wind_60 rfl (lv_at hl 1 rfl) ?_
            exact W.iret hx hb hr (fun t ht hW => ⟨⟨_, _, rfl, hJ.trans hE.symm, by rw [ht]; exact hP, va_K.moved hW.alike hK, hD⟩, hS.F ht⟩) hS.2.2 dX8_wind_61
        · skip
          rw [if_neg c11] at hJ
          rw [if_neg c11] at hV
          refine lv_aload_n hx hb dX8_wind_52 rfl (lv_at hl 2 rfl) ?_
          refine lv_iload hx hb dX8_wind_53 (lv_at hl 0 rfl) ?_
          obtain ⟨hk25, hV⟩ := hV
          refine cl_i (va_runV (As := [.int y10]) (rest := []) ⟨hx, hb, hml, hown, hts⟩ (qX8_fails l dC dI cy y bd H.size ((jX8_pullCause o5 (m_shafts o5 (((4 : Int32) * a1) + (1 : Int32)).toNatClampNeg) a2).2) y10 hk25) (cwV 1 hts gX8_wind_X8_fails rfl rfl rfl (by decide +kernel) ⟨Nat.le_of_ble_eq_true rfl, Nat.le_of_ble_eq_true rfl⟩) (pV hK hP hD hk (q0 := 0) rfl rfl) rfl rfl hl.1 rfl (lv_room (Nat.le_of_ble_eq_true rfl)) dX8_wind_55 ⟨Nat.le_of_ble_eq_true rfl, Nat.le_of_ble_eq_true rfl⟩) hD hS hA (fun r u H locs hw hP hD hS => ?_)
          have hr1 : r = (jX8_fails ((jX8_pullCause o5 (m_shafts o5 (((4 : Int32) * a1) + (1 : Int32)).toNatClampNeg) a2).2) y10).1 := congrArg Prod.fst hw
          have hu1 : u = (jX8_fails ((jX8_pullCause o5 (m_shafts o5 (((4 : Int32) * a1) + (1 : Int32)).toNatClampNeg) a2).2) y10).2 := congrArg Prod.snd hw
          rw [hu1] at hP hD
          rw [hr1]
          refine lv_topi (fun y26 ey26 => ?_)
          rw [← ey26] at hJ
          rw [jX8_wind_y26] at hJ
          rw [← ey26] at hV
          rw [sX8_wind_y26] at hV
          have hV := hV.2
          refine lv_istore (lv' := [(4, .int y26), (3, .int (1 : Int32)), (0, .ref y), (1, .int a1), (2, .int a2)]) hx hb dX8_wind_58 hl (by decide) rfl (fun ls hl => ?_)
          refine lv_iload_n hx hb dX8_wind_60 rfl (lv_at hl 1 rfl) ?_
          exact W.iret hx hb hr (fun t ht hW => ⟨⟨_, _, rfl, hJ.trans hE.symm, by rw [ht]; exact hP, va_K.moved hW.alike hK, hD⟩, hS.F ht⟩) hS.2.2 dX8_wind_61
      · skip
        rw [if_neg c7] at hJ
        rw [if_neg c7] at hV
        refine lv_aload_n hx hb dX8_wind_52 rfl (lv_at hl 2 rfl) ?_
        refine lv_iload hx hb dX8_wind_53 (lv_at hl 0 rfl) ?_
        obtain ⟨hk27, hV⟩ := hV
        refine cl_i (va_runV (As := [.int y6]) (rest := []) ⟨hx, hb, hml, hown, hts⟩ (qX8_fails l dC dI cy y bd H.size o5 y6 hk27) (cwV 1 hts gX8_wind_X8_fails rfl rfl rfl (by decide +kernel) ⟨Nat.le_of_ble_eq_true rfl, Nat.le_of_ble_eq_true rfl⟩) (pV hK hP hD hk (q0 := 0) rfl rfl) rfl rfl hl.1 rfl (lv_room (Nat.le_of_ble_eq_true rfl)) dX8_wind_55 ⟨Nat.le_of_ble_eq_true rfl, Nat.le_of_ble_eq_true rfl⟩) hD hS hA (fun r u H locs hw hP hD hS => ?_)
        have hr1 : r = (jX8_fails o5 y6).1 := congrArg Prod.fst hw
        have hu1 : u = (jX8_fails o5 y6).2 := congrArg Prod.snd hw
        rw [hu1] at hP hD
        rw [hr1]
        refine lv_topi (fun y28 ey28 => ?_)
        rw [← ey28] at hJ
        rw [jX8_wind_y28] at hJ
        rw [← ey28] at hV
        rw [sX8_wind_y28] at hV
        have hV := hV.2
        refine lv_istore (lv' := [(4, .int y28), (3, .int (0 : Int32)), (0, .ref y), (1, .int a1), (2, .int a2)]) hx hb dX8_wind_58 hl (by decide) rfl (fun ls hl => ?_)
        refine lv_iload_n hx hb dX8_wind_60 rfl (lv_at hl 1 rfl) ?_
        exact W.iret hx hb hr (fun t ht hW => ⟨⟨_, _, rfl, hJ.trans hE.symm, by rw [ht]; exact hP, va_K.moved hW.alike hK, hD⟩, hS.F ht⟩) hS.2.2 dX8_wind_61
    · skip
      rw [if_pos c2] at hJ
      rw [if_pos c2] at hV
      refine lv_bipush (v := (-101 : Int32)) hx hb dX8_wind_15 (by decide) ?_
      exact W.iret hx hb hr (fun t ht hW => ⟨⟨_, _, rfl, hJ.trans hE.symm, by rw [ht]; exact hP, va_K.moved hW.alike hK, hD⟩, hS.F ht⟩) hS.2.2 dX8_wind_17
def jX8_laid (o : Ms) (a1 : Int32) (a2 : Int32) : Int32 × Ms := (if (jX8_isShaft a1) = 0 then ((-101 : Int32), o) else (if (jX8_in (a2.toInt64) (0 : Int64) (3 : Int64)) = 0 then ((jX8_fails o (-12 : Int32)).1, (jX8_fails o (-12 : Int32)).2) else ((jX8_done o (m_shafts o (((4 : Int32) * a1) + a2).toNatClampNeg)).1, (jX8_done o (m_shafts o (((4 : Int32) * a1) + a2).toNatClampNeg)).2)))
def sX8_laid (o : Ms) (a1 : Int32) (a2 : Int32) : Prop := True ∧ (if (jX8_isShaft a1) = 0 then True else (if (jX8_in (a2.toInt64) (0 : Int64) (3 : Int64)) = 0 then (sX8_fails o (-12 : Int32) ∧ True) else (vp_in (((4 : Int32) * a1) + a2) 8 ∧ True)))
set_option linter.constructorNameAsVariable false in
set_option maxHeartbeats 8000000 in
set_option maxRecDepth 100000 in
theorem qX8_laid (l : Launch) (dC : Nat → ClassId) (dI : Nat → Nat → Nat) (cy : Nat → ClassId) (y : Nat) (bd : Nat → Nat) (sz : Nat) (o : Ms) (a1 : Int32) (a2 : Int32) (hV : sX8_laid o a1 a2) : Met l yX8_laid wsX8_laid ({ frames := 2, cells := 0, slots := 0, locals := 45 }) (va_Pc [.ref y, .int a1, .int a2] (wI (dC, dI) (tyA cy) (WM cy y bd o) sz)) (va_Qi (fun r u => (r, u) = jX8_laid o a1 a2) (fun u t => wO (dC, dI) (tyA cy) (va_A (WM cy y bd o) sz) (WM cy y bd u) t) (va_A (WM cy y bd o) sz)) 0 0 (va_A (WM cy y bd o) sz) := by
  refine Met.ofW (cc := cX8_laid) (maxL := 3) (ret := some .int) (by decide) rfl ?_
  intro p e s m args below meth c s₁ B hml hv
  obtain ⟨rfl, hsz, hP, hK, hD0, hk⟩ := hv
  have hx := B.exec
  have hb := B.bytes
  have hr := B.returns
  have hts := atoms_spec (ws := wsX8_laid) B.pre
  have hown : s.vm.findClass RX8 = some m.cls := findClass_of_methodNamed B.named
  have hlocks := B.notSynchronized
  subst hsz
  have hD := hD0.self (sz := s.heap.size)
  generalize hAe : va_A (WM cy y bd o) s.heap.size = A at hD ⊢
  have hA : ∀ q : Nat, s.heap.size ≤ q → A q := fun q h => by rw [← hAe]; exact Or.inr h
  obtain ⟨H, hHe⟩ : ∃ H, s.heap = H := ⟨_, rfl⟩
  have hP : va_P (dC, dI) vwCl (WM cy y bd o) H := by rw [← hHe]; exact hP
  have hS : va_S A s.heap H [] := by rw [← hHe]; exact va_S.rf
  rw [w_heap hHe]
  have hi_wsX80 : ∀ w ∈ wsX80, w ∈ wsX8_laid := fun _ h => List.mem_cons_of_mem _ (List.mem_append_right _ h)
  obtain ⟨JR, hE⟩ : ∃ q, jX8_laid o a1 a2 = q := ⟨_, rfl⟩
  have hJ := hE
  rw [jX8_laid] at hJ
  rw [sX8_laid] at hV
  have hV := hV.2
  have hl := lv_entry ([.ref y, .int a1, .int a2]) (n := 3) (Nat.le_of_ble_eq_true rfl)
  rw [lg_entry_eq]
  generalize (lg_sl ([.ref y, .int a1, .int a2]) ++ List.replicate (3 - (lg_sl ([.ref y, .int a1, .int a2])).length) Slot.unset).toArray = ls at hl ⊢
  have hl : lv_has ls 3 [(0, .ref y), (1, .int a1), (2, .int a2)] := hl
  refine lv_iload_n hx hb dX8_laid_0 rfl (lv_at hl 1 rfl) ?_
  refine vp_callSi (W.runS (As := [.int a1]) (rest := []) ⟨hx, hb, hml, hown, hts⟩ (qX8_isShaft l a1) (va_cwS 1 hts gX8_laid_X8_isShaft rfl rfl rfl (by decide +kernel) ⟨Nat.le_of_ble_eq_true rfl, Nat.le_of_ble_eq_true rfl⟩) ⟨fun _ _ _ _ q => q, fun U hU hW => rfl⟩ rfl rfl hl.1 rfl (lv_room (Nat.le_of_ble_eq_true rfl)) dX8_laid_1 ⟨Nat.le_of_ble_eq_true rfl, Nat.le_of_ble_eq_true rfl⟩) (fun r hq9 => ?_)
  rw [hq9]
  refine lv_if_ne (tgt := 10) hx hb dX8_laid_4 (by decide) (fun c1 => ?_) (fun c1 => ?_)
  · skip
    rw [if_neg c1] at hJ
    rw [if_neg c1] at hV
    refine lv_iload_n hx hb dX8_laid_10 rfl (lv_at hl 2 rfl) ?_
    refine lv_i2l (v := a2.toInt64) hx hb dX8_laid_11 rfl ?_
    refine lv_lconst (v := (0 : Int64)) hx hb dX8_laid_12 (by decide) ?_
    refine lv_ldc2 (v := (3 : Int64)) hx hb hown (hts (.constantLong RX8 184 (3)) (by decide +kernel)) dX8_laid_13 ?_
    refine vp_callSi (W.runS (As := [.long (a2.toInt64), .long (0 : Int64), .long (3 : Int64)]) (rest := []) ⟨hx, hb, hml, hown, hts⟩ (qX8_in l (a2.toInt64) (0 : Int64) (3 : Int64)) (va_cwS 3 hts gX8_laid_X8_in rfl rfl rfl (by decide +kernel) ⟨Nat.le_of_ble_eq_true rfl, Nat.le_of_ble_eq_true rfl⟩) ⟨fun _ _ _ _ q => q, fun U hU hW => rfl⟩ rfl rfl hl.1 rfl (lv_room (Nat.le_of_ble_eq_true rfl)) dX8_laid_16 ⟨Nat.le_of_ble_eq_true rfl, Nat.le_of_ble_eq_true rfl⟩) (fun r hq9 => ?_)
    rw [hq9]
    refine lv_if_eq (tgt := 39) hx hb dX8_laid_19 (by decide) (fun c2 => ?_) (fun c2 => ?_)
    · skip
      rw [if_pos c2] at hJ
      rw [if_pos c2] at hV
      refine lv_aload_n hx hb dX8_laid_39 rfl (lv_at hl 0 rfl) ?_
      refine lv_bipush (v := (-12 : Int32)) hx hb dX8_laid_40 (by decide) ?_
      obtain ⟨hk3, hV⟩ := hV
      refine cl_i (va_runV (As := [.int (-12 : Int32)]) (rest := []) ⟨hx, hb, hml, hown, hts⟩ (qX8_fails l dC dI cy y bd H.size o (-12 : Int32) hk3) (cwV 1 hts gX8_laid_X8_fails rfl rfl rfl (by decide +kernel) ⟨Nat.le_of_ble_eq_true rfl, Nat.le_of_ble_eq_true rfl⟩) (pV hK hP hD hk (q0 := 0) rfl rfl) rfl rfl hl.1 rfl (lv_room (Nat.le_of_ble_eq_true rfl)) dX8_laid_42 ⟨Nat.le_of_ble_eq_true rfl, Nat.le_of_ble_eq_true rfl⟩) hD hS hA (fun r u H locs hw hP hD hS => ?_)
      have hr1 : r = (jX8_fails o (-12 : Int32)).1 := congrArg Prod.fst hw
      have hu1 : u = (jX8_fails o (-12 : Int32)).2 := congrArg Prod.snd hw
      rw [hu1] at hP hD
      rw [hr1]
      exact W.iret hx hb hr (fun t ht hW => ⟨⟨_, _, rfl, hJ.trans hE.symm, by rw [ht]; exact hP, va_K.moved hW.alike hK, hD⟩, hS.F ht⟩) hS.2.2 dX8_laid_45
    · skip
      rw [if_neg c2] at hJ
      rw [if_neg c2] at hV
      refine lv_aload_n hx hb dX8_laid_22 rfl (lv_at hl 0 rfl) ?_
      refine lv_aload_n hx hb dX8_laid_23 rfl (lv_at hl 0 rfl) ?_
      refine va_get (D := (dC, dI)) (ci := 6) (v := .ref (bd 11)) (C := RX8) (T := TX8) (N := 20) (fs := wm_f bd o) hx hb hts hi_wsX80 hown hK hP 0 rfl rfl 13 (by decide) (hts (.fieldLink RX8 47 "OrreryDialsModel" "shafts" "[I") (by decide +kernel)) (fun _ h9 => h9) rfl dX8_laid_24 ?_
      refine lv_iconst (v := (4 : Int32)) hx hb dX8_laid_27 (by decide) ?_
      refine lv_iload_n hx hb dX8_laid_28 rfl (lv_at hl 1 rfl) ?_
      refine lv_imul hx hb dX8_laid_29 ?_
      refine lv_iload_n hx hb dX8_laid_30 rfl (lv_at hl 2 rfl) ?_
      refine lv_iadd hx hb dX8_laid_31 ?_
      obtain ⟨hk4, hV⟩ := hV
      refine va_iald hx hb hK hP 12 0 rfl rfl hk4 dX8_laid_32 ?_
      refine cl_i (va_runV (As := [.int (m_shafts o (((4 : Int32) * a1) + a2).toNatClampNeg)]) (rest := []) ⟨hx, hb, hml, hown, hts⟩ (qX8_done l dC dI cy y bd H.size o (m_shafts o (((4 : Int32) * a1) + a2).toNatClampNeg)) (cwV 1 hts gX8_laid_X8_done rfl rfl rfl (by decide +kernel) ⟨Nat.le_of_ble_eq_true rfl, Nat.le_of_ble_eq_true rfl⟩) (pV hK hP hD hk (q0 := 0) rfl rfl) rfl rfl hl.1 rfl (lv_room (Nat.le_of_ble_eq_true rfl)) dX8_laid_33 ⟨Nat.le_of_ble_eq_true rfl, Nat.le_of_ble_eq_true rfl⟩) hD hS hA (fun r u H locs hw hP hD hS => ?_)
      have hr1 : r = (jX8_done o (m_shafts o (((4 : Int32) * a1) + a2).toNatClampNeg)).1 := congrArg Prod.fst hw
      have hu1 : u = (jX8_done o (m_shafts o (((4 : Int32) * a1) + a2).toNatClampNeg)).2 := congrArg Prod.snd hw
      rw [hu1] at hP hD
      rw [hr1]
      refine lv_goto (tgt := 45) hx hb dX8_laid_36 (by decide) ?_
      exact W.iret hx hb hr (fun t ht hW => ⟨⟨_, _, rfl, hJ.trans hE.symm, by rw [ht]; exact hP, va_K.moved hW.alike hK, hD⟩, hS.F ht⟩) hS.2.2 dX8_laid_45
  · skip
    rw [if_pos c1] at hJ
    rw [if_pos c1] at hV
    refine lv_bipush (v := (-101 : Int32)) hx hb dX8_laid_7 (by decide) ?_
    exact W.iret hx hb hr (fun t ht hW => ⟨⟨_, _, rfl, hJ.trans hE.symm, by rw [ht]; exact hP, va_K.moved hW.alike hK, hD⟩, hS.F ht⟩) hS.2.2 dX8_laid_9
def jX8_pulls (o : Ms) (a1 : Int32) : Int32 := (if (jX8_isDrive o a1) = 0 then (-101 : Int32) else (m_pulled o a1.toNatClampNeg))
def sX8_pulls (o : Ms) (a1 : Int32) : Prop := True ∧ (if (jX8_isDrive o a1) = 0 then True else (vp_in a1 20 ∧ True))
set_option linter.constructorNameAsVariable false in
set_option maxHeartbeats 8000000 in
set_option maxRecDepth 100000 in
theorem qX8_pulls (l : Launch) (dC : Nat → ClassId) (dI : Nat → Nat → Nat) (cy : Nat → ClassId) (y : Nat) (bd : Nat → Nat) (sz : Nat) (o : Ms) (a1 : Int32) (hV : sX8_pulls o a1) : Met l yX8_pulls wsX8_pulls ({ frames := 2, cells := 0, slots := 0, locals := 46 }) (va_Pc [.ref y, .int a1] (wI (dC, dI) (tyA cy) (WM cy y bd o) sz)) (vp_Si (fun r => r = jX8_pulls o a1)) 0 0 (fun _ => False) := by
  refine Met.ofW (cc := cX8_pulls) (maxL := 2) (ret := some .int) (by decide) rfl ?_
  intro p e s m args below meth c s₁ B hml hv
  obtain ⟨rfl, hsz, hP, hK, hD0, hk⟩ := hv
  have hx := B.exec
  have hb := B.bytes
  have hr := B.returns
  have hts := atoms_spec (ws := wsX8_pulls) B.pre
  have hown : s.vm.findClass RX8 = some m.cls := findClass_of_methodNamed B.named
  have hlocks := B.notSynchronized
  subst hsz
  have hD := hD0
  obtain ⟨H, hHe⟩ : ∃ H, s.heap = H := ⟨_, rfl⟩
  have hP : va_P (dC, dI) vwCl (WM cy y bd o) H := by rw [← hHe]; exact hP
  rw [w_heap hHe]
  have hi_wsX80 : ∀ w ∈ wsX80, w ∈ wsX8_pulls := fun _ h => List.mem_cons_of_mem _ (List.mem_append_right _ h)
  obtain ⟨JR, hE⟩ : ∃ q, jX8_pulls o a1 = q := ⟨_, rfl⟩
  have hJ := hE
  rw [jX8_pulls] at hJ
  rw [sX8_pulls] at hV
  have hV := hV.2
  have hl := lv_entry ([.ref y, .int a1]) (n := 2) (Nat.le_of_ble_eq_true rfl)
  rw [lg_entry_eq]
  generalize (lg_sl ([.ref y, .int a1]) ++ List.replicate (2 - (lg_sl ([.ref y, .int a1])).length) Slot.unset).toArray = ls at hl ⊢
  have hl : lv_has ls 2 [(0, .ref y), (1, .int a1)] := hl
  refine lv_aload_n hx hb dX8_pulls_0 rfl (lv_at hl 0 rfl) ?_
  refine lv_iload_n hx hb dX8_pulls_1 rfl (lv_at hl 1 rfl) ?_
  refine vp_callSi (W.runV (As := [.int a1]) (rest := []) ⟨hx, hb, hml, hown, hts⟩ (qX8_isDrive l dC dI cy y bd H.size o a1) (cwV 1 hts gX8_pulls_X8_isDrive rfl rfl rfl (by decide +kernel) ⟨Nat.le_of_ble_eq_true rfl, Nat.le_of_ble_eq_true rfl⟩) (pV hK hP hD hk (q0 := 0) rfl rfl) rfl rfl hl.1 rfl (lv_room (Nat.le_of_ble_eq_true rfl)) dX8_pulls_2 ⟨Nat.le_of_ble_eq_true rfl, Nat.le_of_ble_eq_true rfl⟩) (fun r hq9 => ?_)
  rw [hq9]
  refine lv_if_eq (tgt := 17) hx hb dX8_pulls_5 (by decide) (fun c1 => ?_) (fun c1 => ?_)
  · skip
    rw [if_pos c1] at hJ
    rw [if_pos c1] at hV
    refine lv_bipush (v := (-101 : Int32)) hx hb dX8_pulls_17 (by decide) ?_
    exact W.iret hx hb hr (fun t ht hW => ⟨_, rfl, hJ.trans hE.symm, ht.trans hHe.symm⟩) (fun q h => absurd h List.not_mem_nil) dX8_pulls_19
  · skip
    rw [if_neg c1] at hJ
    rw [if_neg c1] at hV
    refine lv_aload_n hx hb dX8_pulls_8 rfl (lv_at hl 0 rfl) ?_
    refine va_get (D := (dC, dI)) (ci := 6) (v := .ref (bd 9)) (C := RX8) (T := TX8) (N := 20) (fs := wm_f bd o) hx hb hts hi_wsX80 hown hK hP 0 rfl rfl 11 (by decide) (hts (.fieldLink RX8 41 "OrreryDialsModel" "pulled" "[I") (by decide +kernel)) (fun _ h9 => h9) rfl dX8_pulls_9 ?_
    refine lv_iload_n hx hb dX8_pulls_12 rfl (lv_at hl 1 rfl) ?_
    obtain ⟨hk2, hV⟩ := hV
    refine va_iald hx hb hK hP 10 0 rfl rfl hk2 dX8_pulls_13 ?_
    refine lv_goto (tgt := 19) hx hb dX8_pulls_14 (by decide) ?_
    exact W.iret hx hb hr (fun t ht hW => ⟨_, rfl, hJ.trans hE.symm, ht.trans hHe.symm⟩) (fun q h => absurd h List.not_mem_nil) dX8_pulls_19
def jX8_isLog (a0 : Int32) : Int32 := (jX8_in (a0.toInt64) (0 : Int64) (7 : Int64))
set_option linter.constructorNameAsVariable false in
set_option maxHeartbeats 8000000 in
set_option maxRecDepth 100000 in
theorem qX8_isLog (l : Launch) (a0 : Int32) : Met l yX8_isLog wsX8_isLog ({ frames := 1, cells := 0, slots := 0, locals := 25 }) (fun v _ => v = ([.int a0] : List Value).toArray) (vp_Si (fun r => r = jX8_isLog a0)) 0 0 (fun _ => False) := by
  refine Met.ofW (cc := cX8_isLog) (maxL := 1) (ret := some .boolean) (by decide) rfl ?_
  intro p e s m args below meth c s₁ B hml hv
  subst hv
  have hx := B.exec
  have hb := B.bytes
  have hr := B.returns
  have hts := atoms_spec (ws := wsX8_isLog) B.pre
  have hown : s.vm.findClass RX8 = some m.cls := findClass_of_methodNamed B.named
  have hlocks := B.notSynchronized
  obtain ⟨JR, hE⟩ : ∃ q, jX8_isLog a0 = q := ⟨_, rfl⟩
  have hJ := hE
  rw [jX8_isLog] at hJ
  have hl := lv_entry ([.int a0]) (n := 1) (Nat.le_of_ble_eq_true rfl)
  rw [lg_entry_eq]
  generalize (lg_sl ([.int a0]) ++ List.replicate (1 - (lg_sl ([.int a0])).length) Slot.unset).toArray = ls at hl ⊢
  have hl : lv_has ls 1 [(0, .int a0)] := hl
  refine lv_iload_n hx hb dX8_isLog_0 rfl (lv_at hl 0 rfl) ?_
  refine lv_i2l (v := a0.toInt64) hx hb dX8_isLog_1 rfl ?_
  refine lv_lconst (v := (0 : Int64)) hx hb dX8_isLog_2 (by decide) ?_
  refine lv_ldc2 (v := (7 : Int64)) hx hb hown (hts (.constantLong RX8 186 (7)) (by decide +kernel)) dX8_isLog_3 ?_
  refine vp_callSi (W.runS (As := [.long (a0.toInt64), .long (0 : Int64), .long (7 : Int64)]) (rest := []) ⟨hx, hb, hml, hown, hts⟩ (qX8_in l (a0.toInt64) (0 : Int64) (7 : Int64)) (va_cwS 3 hts gX8_isLog_X8_in rfl rfl rfl (by decide +kernel) ⟨Nat.le_of_ble_eq_true rfl, Nat.le_of_ble_eq_true rfl⟩) ⟨fun _ _ _ _ q => q, fun U hU hW => rfl⟩ rfl rfl hl.1 rfl (lv_room (Nat.le_of_ble_eq_true rfl)) dX8_isLog_6 ⟨Nat.le_of_ble_eq_true rfl, Nat.le_of_ble_eq_true rfl⟩) (fun r hq9 => ?_)
  rw [hq9]
  exact W.zret hx hb hr (narrow_bool (bX8_in (a0.toInt64) (0 : Int64) (7 : Int64))) (fun t ht hW => ⟨_, rfl, hJ.trans hE.symm, ht⟩) (fun q h => absurd h List.not_mem_nil) dX8_isLog_9
theorem bX8_isLog (a0 : Int32) : (jX8_isLog a0) = 0 ∨ (jX8_isLog a0) = 1 := by
  unfold jX8_isLog
  exact (bX8_in (a0.toInt64) (0 : Int64) (7 : Int64))
def jX8_rowOf (a0 : Int32) (a1 : Int32) : Int32 := (if a1 = 0 then ((2 : Int32) * a0) else (((2 : Int32) * a0) + (1 : Int32)))
set_option linter.constructorNameAsVariable false in
set_option maxHeartbeats 8000000 in
set_option maxRecDepth 100000 in
theorem qX8_rowOf (l : Launch) (a0 : Int32) (a1 : Int32) : Met l yX8_rowOf wsX8_rowOf ({ frames := 0, cells := 0, slots := 0, locals := 0 }) (fun v _ => v = ([.int a0, .int a1] : List Value).toArray) (vp_Si (fun r => r = jX8_rowOf a0 a1)) 0 0 (fun _ => False) := by
  refine Met.ofW (cc := cX8_rowOf) (maxL := 2) (ret := some .int) (by decide) rfl ?_
  intro p e s m args below meth c s₁ B hml hv
  subst hv
  have hx := B.exec
  have hb := B.bytes
  have hr := B.returns
  have hts := atoms_spec (ws := wsX8_rowOf) B.pre
  have hown : s.vm.findClass RX8 = some m.cls := findClass_of_methodNamed B.named
  have hlocks := B.notSynchronized
  obtain ⟨JR, hE⟩ : ∃ q, jX8_rowOf a0 a1 = q := ⟨_, rfl⟩
  have hJ := hE
  rw [jX8_rowOf] at hJ
  have hl := lv_entry ([.int a0, .int a1]) (n := 2) (Nat.le_of_ble_eq_true rfl)
  rw [lg_entry_eq]
  generalize (lg_sl ([.int a0, .int a1]) ++ List.replicate (2 - (lg_sl ([.int a0, .int a1])).length) Slot.unset).toArray = ls at hl ⊢
  have hl : lv_has ls 2 [(0, .int a0), (1, .int a1)] := hl
  refine lv_iload_n hx hb dX8_rowOf_0 rfl (lv_at hl 1 rfl) ?_
  refine lv_if_eq (tgt := 12) hx hb dX8_rowOf_1 (by decide) (fun c1 => ?_) (fun c1 => ?_)
  · skip
    rw [if_pos c1] at hJ
    refine lv_iconst (v := (2 : Int32)) hx hb dX8_rowOf_12 (by decide) ?_
    refine lv_iload_n hx hb dX8_rowOf_13 rfl (lv_at hl 0 rfl) ?_
    refine lv_imul hx hb dX8_rowOf_14 ?_
    exact W.iret hx hb hr (fun t ht hW => ⟨_, rfl, hJ.trans hE.symm, ht⟩) (fun q h => absurd h List.not_mem_nil) dX8_rowOf_15
  · skip
    rw [if_neg c1] at hJ
    refine lv_iconst (v := (2 : Int32)) hx hb dX8_rowOf_4 (by decide) ?_
    refine lv_iload_n hx hb dX8_rowOf_5 rfl (lv_at hl 0 rfl) ?_
    refine lv_imul hx hb dX8_rowOf_6 ?_
    refine lv_iconst (v := (1 : Int32)) hx hb dX8_rowOf_7 (by decide) ?_
    refine lv_iadd hx hb dX8_rowOf_8 ?_
    refine lv_goto (tgt := 15) hx hb dX8_rowOf_9 (by decide) ?_
    exact W.iret hx hb hr (fun t ht hW => ⟨_, rfl, hJ.trans hE.symm, ht⟩) (fun q h => absurd h List.not_mem_nil) dX8_rowOf_15
def jX8_cause (o : Ms) (a1 : Int32) (a2 : Int32) : Int32 := (if (m_many o a1.toNatClampNeg) = (-1 : Int32) then (-11 : Int32) else (if (jX8_in (a2.toInt64) (0 : Int64) (((m_many o a1.toNatClampNeg).toInt64) - (1 : Int64))) = 0 then (-12 : Int32) else (0 : Int32)))
def sX8_cause (o : Ms) (a1 : Int32) (a2 : Int32) : Prop := True ∧ (vp_in a1 16 ∧ (if (m_many o a1.toNatClampNeg) = (-1 : Int32) then True else (vp_in a1 16 ∧ (if (jX8_in (a2.toInt64) (0 : Int64) (((m_many o a1.toNatClampNeg).toInt64) - (1 : Int64))) = 0 then True else True))))
set_option linter.constructorNameAsVariable false in
set_option maxHeartbeats 8000000 in
set_option maxRecDepth 100000 in
theorem qX8_cause (l : Launch) (dC : Nat → ClassId) (dI : Nat → Nat → Nat) (cy : Nat → ClassId) (y : Nat) (bd : Nat → Nat) (sz : Nat) (o : Ms) (a1 : Int32) (a2 : Int32) (hV : sX8_cause o a1 a2) : Met l yX8_cause wsX8_cause ({ frames := 1, cells := 0, slots := 0, locals := 25 }) (va_Pc [.ref y, .int a1, .int a2] (wI (dC, dI) (tyA cy) (WM cy y bd o) sz)) (vp_Si (fun r => r = jX8_cause o a1 a2)) 0 0 (fun _ => False) := by
  refine Met.ofW (cc := cX8_cause) (maxL := 3) (ret := some .int) (by decide) rfl ?_
  intro p e s m args below meth c s₁ B hml hv
  obtain ⟨rfl, hsz, hP, hK, hD0, hk⟩ := hv
  have hx := B.exec
  have hb := B.bytes
  have hr := B.returns
  have hts := atoms_spec (ws := wsX8_cause) B.pre
  have hown : s.vm.findClass RX8 = some m.cls := findClass_of_methodNamed B.named
  have hlocks := B.notSynchronized
  subst hsz
  have hD := hD0
  obtain ⟨H, hHe⟩ : ∃ H, s.heap = H := ⟨_, rfl⟩
  have hP : va_P (dC, dI) vwCl (WM cy y bd o) H := by rw [← hHe]; exact hP
  rw [w_heap hHe]
  have hi_wsX80 : ∀ w ∈ wsX80, w ∈ wsX8_cause := fun _ h => List.mem_cons_of_mem _ (List.mem_append_right _ h)
  obtain ⟨JR, hE⟩ : ∃ q, jX8_cause o a1 a2 = q := ⟨_, rfl⟩
  have hJ := hE
  rw [jX8_cause] at hJ
  rw [sX8_cause] at hV
  have hV := hV.2
  have hl := lv_entry ([.ref y, .int a1, .int a2]) (n := 3) (Nat.le_of_ble_eq_true rfl)
  rw [lg_entry_eq]
  generalize (lg_sl ([.ref y, .int a1, .int a2]) ++ List.replicate (3 - (lg_sl ([.ref y, .int a1, .int a2])).length) Slot.unset).toArray = ls at hl ⊢
  have hl : lv_has ls 3 [(0, .ref y), (1, .int a1), (2, .int a2)] := hl
  refine lv_aload_n hx hb dX8_cause_0 rfl (lv_at hl 0 rfl) ?_
  refine va_get (D := (dC, dI)) (ci := 6) (v := .ref (bd 12)) (C := RX8) (T := TX8) (N := 20) (fs := wm_f bd o) hx hb hts hi_wsX80 hown hK hP 0 rfl rfl 14 (by decide) (hts (.fieldLink RX8 50 "OrreryDialsModel" "many" "[I") (by decide +kernel)) (fun _ h9 => h9) rfl dX8_cause_1 ?_
  refine lv_iload_n hx hb dX8_cause_4 rfl (lv_at hl 1 rfl) ?_
  obtain ⟨hk1, hV⟩ := hV
  refine va_iald hx hb hK hP 13 0 rfl rfl hk1 dX8_cause_5 ?_
  refine lv_iconst (v := (-1 : Int32)) hx hb dX8_cause_6 (by decide) ?_
  refine lv_icmp_ne (tgt := 15) hx hb dX8_cause_7 (by decide) (fun c2 => ?_) (fun c2 => ?_)
  · skip
    rw [if_neg c2] at hJ
    rw [if_neg c2] at hV
    refine lv_iload_n hx hb dX8_cause_15 rfl (lv_at hl 2 rfl) ?_
    refine lv_i2l (v := a2.toInt64) hx hb dX8_cause_16 rfl ?_
    refine lv_lconst (v := (0 : Int64)) hx hb dX8_cause_17 (by decide) ?_
    refine lv_aload_n hx hb dX8_cause_18 rfl (lv_at hl 0 rfl) ?_
    refine va_get (D := (dC, dI)) (ci := 6) (v := .ref (bd 12)) (C := RX8) (T := TX8) (N := 20) (fs := wm_f bd o) hx hb hts hi_wsX80 hown hK hP 0 rfl rfl 14 (by decide) (hts (.fieldLink RX8 50 "OrreryDialsModel" "many" "[I") (by decide +kernel)) (fun _ h9 => h9) rfl dX8_cause_19 ?_
    refine lv_iload_n hx hb dX8_cause_22 rfl (lv_at hl 1 rfl) ?_
    obtain ⟨hk3, hV⟩ := hV
    refine va_iald hx hb hK hP 13 0 rfl rfl hk3 dX8_cause_23 ?_
    refine lv_i2l (v := (m_many o a1.toNatClampNeg).toInt64) hx hb dX8_cause_24 rfl ?_
    refine lv_lconst (v := (1 : Int64)) hx hb dX8_cause_25 (by decide) ?_
    refine lv_lsub hx hb dX8_cause_26 ?_
    refine vp_callSi (W.runS (As := [.long (a2.toInt64), .long (0 : Int64), .long (((m_many o a1.toNatClampNeg).toInt64) - (1 : Int64))]) (rest := []) ⟨hx, hb, hml, hown, hts⟩ (qX8_in l (a2.toInt64) (0 : Int64) (((m_many o a1.toNatClampNeg).toInt64) - (1 : Int64))) (va_cwS 3 hts gX8_cause_X8_in rfl rfl rfl (by decide +kernel) ⟨Nat.le_of_ble_eq_true rfl, Nat.le_of_ble_eq_true rfl⟩) ⟨fun _ _ _ _ q => q, fun U hU hW => rfl⟩ rfl rfl hl.1 rfl (lv_room (Nat.le_of_ble_eq_true rfl)) dX8_cause_27 ⟨Nat.le_of_ble_eq_true rfl, Nat.le_of_ble_eq_true rfl⟩) (fun r hq9 => ?_)
    rw [hq9]
    refine lv_if_eq (tgt := 37) hx hb dX8_cause_30 (by decide) (fun c4 => ?_) (fun c4 => ?_)
    · skip
      rw [if_pos c4] at hJ
      rw [if_pos c4] at hV
      refine lv_bipush (v := (-12 : Int32)) hx hb dX8_cause_37 (by decide) ?_
      exact W.iret hx hb hr (fun t ht hW => ⟨_, rfl, hJ.trans hE.symm, ht.trans hHe.symm⟩) (fun q h => absurd h List.not_mem_nil) dX8_cause_39
    · skip
      rw [if_neg c4] at hJ
      rw [if_neg c4] at hV
      refine lv_iconst (v := (0 : Int32)) hx hb dX8_cause_33 (by decide) ?_
      refine lv_goto (tgt := 39) hx hb dX8_cause_34 (by decide) ?_
      exact W.iret hx hb hr (fun t ht hW => ⟨_, rfl, hJ.trans hE.symm, ht.trans hHe.symm⟩) (fun q h => absurd h List.not_mem_nil) dX8_cause_39
  · skip
    rw [if_pos c2] at hJ
    rw [if_pos c2] at hV
    refine lv_bipush (v := (-11 : Int32)) hx hb dX8_cause_10 (by decide) ?_
    refine lv_goto (tgt := 39) hx hb dX8_cause_12 (by decide) ?_
    exact W.iret hx hb hr (fun t ht hW => ⟨_, rfl, hJ.trans hE.symm, ht.trans hHe.symm⟩) (fun q h => absurd h List.not_mem_nil) dX8_cause_39
def jX8_write_y4 (o : Ms) (a1 : Int32) (a2 : Int32) (a3 : Int32) (a4 : Int64) (y4 : Int32) : Int32 × Ms := (if y4 = 0 then (if a2 = 0 then ((jX8_done (s_floats o (vf_upd (m_floats o) (((16 : Int32) * a1) + a3).toNatClampNeg (jX8_floatOf a4))) (1 : Int32)).1, (jX8_done (s_floats o (vf_upd (m_floats o) (((16 : Int32) * a1) + a3).toNatClampNeg (jX8_floatOf a4))) (1 : Int32)).2) else ((jX8_done (s_doubles o (vf_upd (m_doubles o) (((16 : Int32) * a1) + a3).toNatClampNeg (jX8_doubleOf a4))) (1 : Int32)).1, (jX8_done (s_doubles o (vf_upd (m_doubles o) (((16 : Int32) * a1) + a3).toNatClampNeg (jX8_doubleOf a4))) (1 : Int32)).2)) else ((jX8_fails o y4).1, (jX8_fails o y4).2))
def sX8_write_y4 (o : Ms) (a1 : Int32) (a2 : Int32) (a3 : Int32) (a4 : Int64) (y4 : Int32) : Prop := True ∧ (if y4 = 0 then (if a2 = 0 then (sX8_floatOf a4 ∧ (vp_in (((16 : Int32) * a1) + a3) 128 ∧ True)) else (sX8_doubleOf a4 ∧ (vp_in (((16 : Int32) * a1) + a3) 128 ∧ True))) else (sX8_fails o y4 ∧ True))
def jX8_write (o : Ms) (a1 : Int32) (a2 : Int32) (a3 : Int32) (a4 : Int64) : Int32 × Ms := (if (jX8_isLog a1) = 0 then ((-101 : Int32), o) else (if (jX8_isFit a2 a4) = 0 then ((-102 : Int32), o) else (jX8_write_y4 o a1 a2 a3 a4 (jX8_cause o (jX8_rowOf a1 a2) a3))))
def sX8_write (o : Ms) (a1 : Int32) (a2 : Int32) (a3 : Int32) (a4 : Int64) : Prop := True ∧ (if (jX8_isLog a1) = 0 then True else (if (jX8_isFit a2 a4) = 0 then True else (sX8_cause o (jX8_rowOf a1 a2) a3 ∧ (sX8_write_y4 o a1 a2 a3 a4 (jX8_cause o (jX8_rowOf a1 a2) a3)))))
set_option linter.constructorNameAsVariable false in
set_option maxHeartbeats 8000000 in
set_option maxRecDepth 100000 in
theorem qX8_write (l : Launch) (dC : Nat → ClassId) (dI : Nat → Nat → Nat) (cy : Nat → ClassId) (y : Nat) (bd : Nat → Nat) (sz : Nat) (o : Ms) (a1 : Int32) (a2 : Int32) (a3 : Int32) (a4 : Int64) (hV : sX8_write o a1 a2 a3 a4) : Met l yX8_write wsX8_write ({ frames := 2, cells := 0, slots := 0, locals := 47 }) (va_Pc [.ref y, .int a1, .int a2, .int a3, .long a4] (wI (dC, dI) (tyA cy) (WM cy y bd o) sz)) (va_Qi (fun r u => (r, u) = jX8_write o a1 a2 a3 a4) (fun u t => wO (dC, dI) (tyA cy) (va_A (WM cy y bd o) sz) (WM cy y bd u) t) (va_A (WM cy y bd o) sz)) 0 0 (va_A (WM cy y bd o) sz) := by
  refine Met.ofW (cc := cX8_write) (maxL := 7) (ret := some .int) (by decide) rfl ?_
  intro p e s m args below meth c s₁ B hml hv
  obtain ⟨rfl, hsz, hP, hK, hD0, hk⟩ := hv
  have hx := B.exec
  have hb := B.bytes
  have hr := B.returns
  have hts := atoms_spec (ws := wsX8_write) B.pre
  have hown : s.vm.findClass RX8 = some m.cls := findClass_of_methodNamed B.named
  have hlocks := B.notSynchronized
  subst hsz
  have hD := hD0.self (sz := s.heap.size)
  generalize hAe : va_A (WM cy y bd o) s.heap.size = A at hD ⊢
  have hA : ∀ q : Nat, s.heap.size ≤ q → A q := fun q h => by rw [← hAe]; exact Or.inr h
  obtain ⟨H, hHe⟩ : ∃ H, s.heap = H := ⟨_, rfl⟩
  have hP : va_P (dC, dI) vwCl (WM cy y bd o) H := by rw [← hHe]; exact hP
  have hS : va_S A s.heap H [] := by rw [← hHe]; exact va_S.rf
  rw [w_heap hHe]
  have hi_wsX80 : ∀ w ∈ wsX80, w ∈ wsX8_write := fun _ h => List.mem_cons_of_mem _ (List.mem_append_right _ h)
  obtain ⟨JR, hE⟩ : ∃ q, jX8_write o a1 a2 a3 a4 = q := ⟨_, rfl⟩
  have hJ := hE
  rw [jX8_write] at hJ
  rw [sX8_write] at hV
  have hV := hV.2
  have hl := lv_entry ([.ref y, .int a1, .int a2, .int a3, .long a4]) (n := 7) (Nat.le_of_ble_eq_true rfl)
  rw [lg_entry_eq]
  generalize (lg_sl ([.ref y, .int a1, .int a2, .int a3, .long a4]) ++ List.replicate (7 - (lg_sl ([.ref y, .int a1, .int a2, .int a3, .long a4])).length) Slot.unset).toArray = ls at hl ⊢
  have hl : lv_has ls 7 [(0, .ref y), (1, .int a1), (2, .int a2), (3, .int a3), (4, .long a4)] := hl
  refine lv_iload_n hx hb dX8_write_0 rfl (lv_at hl 1 rfl) ?_
  refine vp_callSi (W.runS (As := [.int a1]) (rest := []) ⟨hx, hb, hml, hown, hts⟩ (qX8_isLog l a1) (va_cwS 1 hts gX8_write_X8_isLog rfl rfl rfl (by decide +kernel) ⟨Nat.le_of_ble_eq_true rfl, Nat.le_of_ble_eq_true rfl⟩) ⟨fun _ _ _ _ q => q, fun U hU hW => rfl⟩ rfl rfl hl.1 rfl (lv_room (Nat.le_of_ble_eq_true rfl)) dX8_write_1 ⟨Nat.le_of_ble_eq_true rfl, Nat.le_of_ble_eq_true rfl⟩) (fun r hq9 => ?_)
  rw [hq9]
  refine lv_if_ne (tgt := 10) hx hb dX8_write_4 (by decide) (fun c1 => ?_) (fun c1 => ?_)
  · skip
    rw [if_neg c1] at hJ
    rw [if_neg c1] at hV
    refine lv_iload_n hx hb dX8_write_10 rfl (lv_at hl 2 rfl) ?_
    refine lv_lload hx hb dX8_write_11 (lv_at hl 4 rfl) ?_
    refine vp_callSi (W.runS (As := [.int a2, .long a4]) (rest := []) ⟨hx, hb, hml, hown, hts⟩ (qX8_isFit l a2 a4) (va_cwS 2 hts gX8_write_X8_isFit rfl rfl rfl (by decide +kernel) ⟨Nat.le_of_ble_eq_true rfl, Nat.le_of_ble_eq_true rfl⟩) ⟨fun _ _ _ _ q => q, fun U hU hW => rfl⟩ rfl rfl hl.1 rfl (lv_room (Nat.le_of_ble_eq_true rfl)) dX8_write_13 ⟨Nat.le_of_ble_eq_true rfl, Nat.le_of_ble_eq_true rfl⟩) (fun r hq9 => ?_)
    rw [hq9]
    refine lv_if_ne (tgt := 22) hx hb dX8_write_16 (by decide) (fun c2 => ?_) (fun c2 => ?_)
    · skip
      rw [if_neg c2] at hJ
      rw [if_neg c2] at hV
      refine lv_aload_n hx hb dX8_write_22 rfl (lv_at hl 0 rfl) ?_
      refine lv_iload_n hx hb dX8_write_23 rfl (lv_at hl 1 rfl) ?_
      refine lv_iload_n hx hb dX8_write_24 rfl (lv_at hl 2 rfl) ?_
      refine vp_callSi (W.runS (As := [.int a1, .int a2]) (rest := [.ref y]) ⟨hx, hb, hml, hown, hts⟩ (qX8_rowOf l a1 a2) (va_cwS 2 hts gX8_write_X8_rowOf rfl rfl rfl (by decide +kernel) ⟨Nat.le_of_ble_eq_true rfl, Nat.le_of_ble_eq_true rfl⟩) ⟨fun _ _ _ _ q => q, fun U hU hW => rfl⟩ rfl rfl hl.1 rfl (lv_room (Nat.le_of_ble_eq_true rfl)) dX8_write_25 ⟨Nat.le_of_ble_eq_true rfl, Nat.le_of_ble_eq_true rfl⟩) (fun r hq9 => ?_)
      rw [hq9]
      refine lv_iload_n hx hb dX8_write_28 rfl (lv_at hl 3 rfl) ?_
      obtain ⟨hk3, hV⟩ := hV
      refine vp_callSi (W.runV (As := [.int (jX8_rowOf a1 a2), .int a3]) (rest := []) ⟨hx, hb, hml, hown, hts⟩ (qX8_cause l dC dI cy y bd H.size o (jX8_rowOf a1 a2) a3 hk3) (cwV 2 hts gX8_write_X8_cause rfl rfl rfl (by decide +kernel) ⟨Nat.le_of_ble_eq_true rfl, Nat.le_of_ble_eq_true rfl⟩) (pV hK hP hD hk (q0 := 0) rfl rfl) rfl rfl hl.1 rfl (lv_room (Nat.le_of_ble_eq_true rfl)) dX8_write_29 ⟨Nat.le_of_ble_eq_true rfl, Nat.le_of_ble_eq_true rfl⟩) (fun r hq9 => ?_)
      rw [hq9]
      refine lv_topi (fun y4 ey4 => ?_)
      rw [← ey4] at hJ
      rw [jX8_write_y4] at hJ
      rw [← ey4] at hV
      rw [sX8_write_y4] at hV
      have hV := hV.2
      refine lv_istore (lv' := [(6, .int y4), (0, .ref y), (1, .int a1), (2, .int a2), (3, .int a3), (4, .long a4)]) hx hb dX8_write_32 hl (by decide) rfl (fun ls hl => ?_)
      refine lv_iload hx hb dX8_write_34 (lv_at hl 0 rfl) ?_
      refine lv_if_eq (tgt := 46) hx hb dX8_write_36 (by decide) (fun c5 => ?_) (fun c5 => ?_)
      · skip
        rw [if_pos c5] at hJ
        rw [if_pos c5] at hV
        refine lv_iload_n hx hb dX8_write_46 rfl (lv_at hl 3 rfl) ?_
        refine lv_if_eq (tgt := 69) hx hb dX8_write_47 (by decide) (fun c6 => ?_) (fun c6 => ?_)
        · skip
          rw [if_pos c6] at hJ
          rw [if_pos c6] at hV
          refine lv_aload_n hx hb dX8_write_69 rfl (lv_at hl 1 rfl) ?_
          refine va_get (D := (dC, dI)) (ci := 6) (v := .ref (bd 13)) (C := RX8) (T := TX8) (N := 20) (fs := wm_f bd o) hx hb hts hi_wsX80 hown hK hP 0 rfl rfl 15 (by decide) (hts (.fieldLink RX8 53 "OrreryDialsModel" "floats" "[F") (by decide +kernel)) (fun _ h9 => h9) rfl dX8_write_70 ?_
          refine lv_bipush (v := (16 : Int32)) hx hb dX8_write_73 (by decide) ?_
          refine lv_iload_n hx hb dX8_write_75 rfl (lv_at hl 2 rfl) ?_
          refine lv_imul hx hb dX8_write_76 ?_
          refine lv_iload_n hx hb dX8_write_77 rfl (lv_at hl 4 rfl) ?_
          refine lv_iadd hx hb dX8_write_78 ?_
          refine lv_lload hx hb dX8_write_79 (lv_at hl 5 rfl) ?_
          obtain ⟨hk7, hV⟩ := hV
          refine vp_callSf (W.runS (As := [.long a4]) (rest := [.int (((16 : Int32) * a1) + a3), .ref (bd 13)]) ⟨hx, hb, hml, hown, hts⟩ (qX8_floatOf l a4 hk7) (va_cwS 1 hts gX8_write_X8_floatOf rfl rfl rfl (by decide +kernel) ⟨Nat.le_of_ble_eq_true rfl, Nat.le_of_ble_eq_true rfl⟩) ⟨fun _ _ _ _ q => q, fun U hU hW => rfl⟩ rfl rfl hl.1 rfl (lv_room (Nat.le_of_ble_eq_true rfl)) dX8_write_81 ⟨Nat.le_of_ble_eq_true rfl, Nat.le_of_ble_eq_true rfl⟩) (fun r hq9 => ?_)
          rw [hq9]
          obtain ⟨hk8, hV⟩ := hV
          refine va_fast hx hb hK hP hD hS 14 3 rfl rfl hk8 dX8_write_84 (fun H locs hP hD hS => ?_)
          rw [wm_a_floats] at hP hD
          refine lv_aload_n hx hb dX8_write_85 rfl (lv_at hl 1 rfl) ?_
          refine lv_iconst (v := (1 : Int32)) hx hb dX8_write_86 (by decide) ?_
          refine cl_i (va_runV (As := [.int (1 : Int32)]) (rest := []) ⟨hx, hb, hml, hown, hts⟩ (qX8_done l dC dI cy y bd H.size (s_floats o (vf_upd (m_floats o) (((16 : Int32) * a1) + a3).toNatClampNeg (jX8_floatOf a4))) (1 : Int32)) (cwV 1 hts gX8_write_X8_done rfl rfl rfl (by decide +kernel) ⟨Nat.le_of_ble_eq_true rfl, Nat.le_of_ble_eq_true rfl⟩) (pV hK hP hD hk (q0 := 0) rfl rfl) rfl rfl hl.1 rfl (lv_room (Nat.le_of_ble_eq_true rfl)) dX8_write_87 ⟨Nat.le_of_ble_eq_true rfl, Nat.le_of_ble_eq_true rfl⟩) hD hS hA (fun r u H locs hw hP hD hS => ?_)
          have hr1 : r = (jX8_done (s_floats o (vf_upd (m_floats o) (((16 : Int32) * a1) + a3).toNatClampNeg (jX8_floatOf a4))) (1 : Int32)).1 := congrArg Prod.fst hw
          have hu1 : u = (jX8_done (s_floats o (vf_upd (m_floats o) (((16 : Int32) * a1) + a3).toNatClampNeg (jX8_floatOf a4))) (1 : Int32)).2 := congrArg Prod.snd hw
          rw [hu1] at hP hD
          rw [hr1]
          exact W.iret hx hb hr (fun t ht hW => ⟨⟨_, _, rfl, hJ.trans hE.symm, by rw [ht]; exact hP, va_K.moved hW.alike hK, hD⟩, hS.F ht⟩) hS.2.2 dX8_write_90
        · skip
          rw [if_neg c6] at hJ
          rw [if_neg c6] at hV
          refine lv_aload_n hx hb dX8_write_50 rfl (lv_at hl 1 rfl) ?_
          refine va_get (D := (dC, dI)) (ci := 6) (v := .ref (bd 14)) (C := RX8) (T := TX8) (N := 20) (fs := wm_f bd o) hx hb hts hi_wsX80 hown hK hP 0 rfl rfl 16 (by decide) (hts (.fieldLink RX8 56 "OrreryDialsModel" "doubles" "[D") (by decide +kernel)) (fun _ h9 => h9) rfl dX8_write_51 ?_
          refine lv_bipush (v := (16 : Int32)) hx hb dX8_write_54 (by decide) ?_
          refine lv_iload_n hx hb dX8_write_56 rfl (lv_at hl 2 rfl) ?_
          refine lv_imul hx hb dX8_write_57 ?_
          refine lv_iload_n hx hb dX8_write_58 rfl (lv_at hl 4 rfl) ?_
          refine lv_iadd hx hb dX8_write_59 ?_
          refine lv_lload hx hb dX8_write_60 (lv_at hl 5 rfl) ?_
          obtain ⟨hk9, hV⟩ := hV
          refine vp_callSd (W.runS (As := [.long a4]) (rest := [.int (((16 : Int32) * a1) + a3), .ref (bd 14)]) ⟨hx, hb, hml, hown, hts⟩ (qX8_doubleOf l a4 hk9) (va_cwS 1 hts gX8_write_X8_doubleOf rfl rfl rfl (by decide +kernel) ⟨Nat.le_of_ble_eq_true rfl, Nat.le_of_ble_eq_true rfl⟩) ⟨fun _ _ _ _ q => q, fun U hU hW => rfl⟩ rfl rfl hl.1 rfl (lv_room (Nat.le_of_ble_eq_true rfl)) dX8_write_62 ⟨Nat.le_of_ble_eq_true rfl, Nat.le_of_ble_eq_true rfl⟩) (fun r hq9 => ?_)
          rw [hq9]
          obtain ⟨hk10, hV⟩ := hV
          refine va_dast hx hb hK hP hD hS 15 4 rfl rfl hk10 dX8_write_65 (fun H locs hP hD hS => ?_)
          rw [wm_a_doubles] at hP hD
          refine lv_goto (tgt := 85) hx hb dX8_write_66 (by decide) ?_
          refine lv_aload_n hx hb dX8_write_85 rfl (lv_at hl 1 rfl) ?_
          refine lv_iconst (v := (1 : Int32)) hx hb dX8_write_86 (by decide) ?_
          refine cl_i (va_runV (As := [.int (1 : Int32)]) (rest := []) ⟨hx, hb, hml, hown, hts⟩ (qX8_done l dC dI cy y bd H.size (s_doubles o (vf_upd (m_doubles o) (((16 : Int32) * a1) + a3).toNatClampNeg (jX8_doubleOf a4))) (1 : Int32)) (cwV 1 hts gX8_write_X8_done rfl rfl rfl (by decide +kernel) ⟨Nat.le_of_ble_eq_true rfl, Nat.le_of_ble_eq_true rfl⟩) (pV hK hP hD hk (q0 := 0) rfl rfl) rfl rfl hl.1 rfl (lv_room (Nat.le_of_ble_eq_true rfl)) dX8_write_87 ⟨Nat.le_of_ble_eq_true rfl, Nat.le_of_ble_eq_true rfl⟩) hD hS hA (fun r u H locs hw hP hD hS => ?_)
          have hr1 : r = (jX8_done (s_doubles o (vf_upd (m_doubles o) (((16 : Int32) * a1) + a3).toNatClampNeg (jX8_doubleOf a4))) (1 : Int32)).1 := congrArg Prod.fst hw
          have hu1 : u = (jX8_done (s_doubles o (vf_upd (m_doubles o) (((16 : Int32) * a1) + a3).toNatClampNeg (jX8_doubleOf a4))) (1 : Int32)).2 := congrArg Prod.snd hw
          rw [hu1] at hP hD
          rw [hr1]
          exact W.iret hx hb hr (fun t ht hW => ⟨⟨_, _, rfl, hJ.trans hE.symm, by rw [ht]; exact hP, va_K.moved hW.alike hK, hD⟩, hS.F ht⟩) hS.2.2 dX8_write_90
      · skip
        rw [if_neg c5] at hJ
        rw [if_neg c5] at hV
        refine lv_aload_n hx hb dX8_write_39 rfl (lv_at hl 1 rfl) ?_
        refine lv_iload hx hb dX8_write_40 (lv_at hl 0 rfl) ?_
        obtain ⟨hk11, hV⟩ := hV
        refine cl_i (va_runV (As := [.int y4]) (rest := []) ⟨hx, hb, hml, hown, hts⟩ (qX8_fails l dC dI cy y bd H.size o y4 hk11) (cwV 1 hts gX8_write_X8_fails rfl rfl rfl (by decide +kernel) ⟨Nat.le_of_ble_eq_true rfl, Nat.le_of_ble_eq_true rfl⟩) (pV hK hP hD hk (q0 := 0) rfl rfl) rfl rfl hl.1 rfl (lv_room (Nat.le_of_ble_eq_true rfl)) dX8_write_42 ⟨Nat.le_of_ble_eq_true rfl, Nat.le_of_ble_eq_true rfl⟩) hD hS hA (fun r u H locs hw hP hD hS => ?_)
        have hr1 : r = (jX8_fails o y4).1 := congrArg Prod.fst hw
        have hu1 : u = (jX8_fails o y4).2 := congrArg Prod.snd hw
        rw [hu1] at hP hD
        rw [hr1]
        exact W.iret hx hb hr (fun t ht hW => ⟨⟨_, _, rfl, hJ.trans hE.symm, by rw [ht]; exact hP, va_K.moved hW.alike hK, hD⟩, hS.F ht⟩) hS.2.2 dX8_write_45
    · skip
      rw [if_pos c2] at hJ
      rw [if_pos c2] at hV
      refine lv_bipush (v := (-102 : Int32)) hx hb dX8_write_19 (by decide) ?_
      exact W.iret hx hb hr (fun t ht hW => ⟨⟨_, _, rfl, hJ.trans hE.symm, by rw [ht]; exact hP, va_K.moved hW.alike hK, hD⟩, hS.F ht⟩) hS.2.2 dX8_write_21
  · skip
    rw [if_pos c1] at hJ
    rw [if_pos c1] at hV
    refine lv_bipush (v := (-101 : Int32)) hx hb dX8_write_7 (by decide) ?_
    exact W.iret hx hb hr (fun t ht hW => ⟨⟨_, _, rfl, hJ.trans hE.symm, by rw [ht]; exact hP, va_K.moved hW.alike hK, hD⟩, hS.F ht⟩) hS.2.2 dX8_write_9
def jX8_read_y5 (o : Ms) (a1 : Int32) (a2 : Int32) (a3 : Int32) (y3 : Int32) (y5 : Int64) : Int32 × Ms := ((jX8_done (s_seen o y5) (1 : Int32)).1, (jX8_done (s_seen o y5) (1 : Int32)).2)
def sX8_read_y5 (o : Ms) (a1 : Int32) (a2 : Int32) (a3 : Int32) (y3 : Int32) (y5 : Int64) : Prop := True ∧ True
def jX8_read_y3 (o : Ms) (a1 : Int32) (a2 : Int32) (a3 : Int32) (y3 : Int32) : Int32 × Ms := (if y3 = 0 then (jX8_read_y5 o a1 a2 a3 y3 (if a2 = 0 then ((jJxf58ca_floatToIntBits_5c35a (m_floats o (((16 : Int32) * a1) + a3).toNatClampNeg)).toInt64) else (jJxe99ae_doubleToLongBits_ccdee (m_doubles o (((16 : Int32) * a1) + a3).toNatClampNeg)))) else ((jX8_fails o y3).1, (jX8_fails o y3).2))
def sX8_read_y3 (o : Ms) (a1 : Int32) (a2 : Int32) (a3 : Int32) (y3 : Int32) : Prop := True ∧ (if y3 = 0 then ((if a2 = 0 then (vp_in (((16 : Int32) * a1) + a3) 128 ∧ True) else (vp_in (((16 : Int32) * a1) + a3) 128 ∧ True)) ∧ (sX8_read_y5 o a1 a2 a3 y3 (if a2 = 0 then ((jJxf58ca_floatToIntBits_5c35a (m_floats o (((16 : Int32) * a1) + a3).toNatClampNeg)).toInt64) else (jJxe99ae_doubleToLongBits_ccdee (m_doubles o (((16 : Int32) * a1) + a3).toNatClampNeg))))) else (sX8_fails o y3 ∧ True))
def jX8_read (o : Ms) (a1 : Int32) (a2 : Int32) (a3 : Int32) : Int32 × Ms := (if (jX8_isLog a1) = 0 then ((-101 : Int32), o) else (jX8_read_y3 o a1 a2 a3 (jX8_cause o (jX8_rowOf a1 a2) a3)))
def sX8_read (o : Ms) (a1 : Int32) (a2 : Int32) (a3 : Int32) : Prop := True ∧ (if (jX8_isLog a1) = 0 then True else (sX8_cause o (jX8_rowOf a1 a2) a3 ∧ (sX8_read_y3 o a1 a2 a3 (jX8_cause o (jX8_rowOf a1 a2) a3))))
set_option linter.constructorNameAsVariable false in
set_option maxHeartbeats 8000000 in
set_option maxRecDepth 100000 in
theorem qX8_read (l : Launch) (dC : Nat → ClassId) (dI : Nat → Nat → Nat) (cy : Nat → ClassId) (y : Nat) (bd : Nat → Nat) (sz : Nat) (o : Ms) (a1 : Int32) (a2 : Int32) (a3 : Int32) (hV : sX8_read o a1 a2 a3) : Met l yX8_read wsX8_read ({ frames := 2, cells := 0, slots := 0, locals := 47 }) (va_Pc [.ref y, .int a1, .int a2, .int a3] (wI (dC, dI) (tyA cy) (WM cy y bd o) sz)) (va_Qi (fun r u => (r, u) = jX8_read o a1 a2 a3) (fun u t => wO (dC, dI) (tyA cy) (va_A (WM cy y bd o) sz) (WM cy y bd u) t) (va_A (WM cy y bd o) sz)) 0 0 (va_A (WM cy y bd o) sz) := by
  refine Met.ofW (cc := cX8_read) (maxL := 5) (ret := some .int) (by decide) rfl ?_
  intro p e s m args below meth c s₁ B hml hv
  obtain ⟨rfl, hsz, hP, hK, hD0, hk⟩ := hv
  have hx := B.exec
  have hb := B.bytes
  have hr := B.returns
  have hts := atoms_spec (ws := wsX8_read) B.pre
  have hown : s.vm.findClass RX8 = some m.cls := findClass_of_methodNamed B.named
  have hlocks := B.notSynchronized
  subst hsz
  have hD := hD0.self (sz := s.heap.size)
  generalize hAe : va_A (WM cy y bd o) s.heap.size = A at hD ⊢
  have hA : ∀ q : Nat, s.heap.size ≤ q → A q := fun q h => by rw [← hAe]; exact Or.inr h
  obtain ⟨H, hHe⟩ : ∃ H, s.heap = H := ⟨_, rfl⟩
  have hP : va_P (dC, dI) vwCl (WM cy y bd o) H := by rw [← hHe]; exact hP
  have hS : va_S A s.heap H [] := by rw [← hHe]; exact va_S.rf
  rw [w_heap hHe]
  have hi_wsX80 : ∀ w ∈ wsX80, w ∈ wsX8_read := fun _ h => List.mem_cons_of_mem _ (List.mem_append_right _ h)
  obtain ⟨JR, hE⟩ : ∃ q, jX8_read o a1 a2 a3 = q := ⟨_, rfl⟩
  have hJ := hE
  rw [jX8_read] at hJ
  rw [sX8_read] at hV
  have hV := hV.2
  have hl := lv_entry ([.ref y, .int a1, .int a2, .int a3]) (n := 5) (Nat.le_of_ble_eq_true rfl)
  rw [lg_entry_eq]
  generalize (lg_sl ([.ref y, .int a1, .int a2, .int a3]) ++ List.replicate (5 - (lg_sl ([.ref y, .int a1, .int a2, .int a3])).length) Slot.unset).toArray = ls at hl ⊢
  have hl : lv_has ls 5 [(0, .ref y), (1, .int a1), (2, .int a2), (3, .int a3)] := hl
  refine lv_iload_n hx hb dX8_read_0 rfl (lv_at hl 1 rfl) ?_
  refine vp_callSi (W.runS (As := [.int a1]) (rest := []) ⟨hx, hb, hml, hown, hts⟩ (qX8_isLog l a1) (va_cwS 1 hts gX8_read_X8_isLog rfl rfl rfl (by decide +kernel) ⟨Nat.le_of_ble_eq_true rfl, Nat.le_of_ble_eq_true rfl⟩) ⟨fun _ _ _ _ q => q, fun U hU hW => rfl⟩ rfl rfl hl.1 rfl (lv_room (Nat.le_of_ble_eq_true rfl)) dX8_read_1 ⟨Nat.le_of_ble_eq_true rfl, Nat.le_of_ble_eq_true rfl⟩) (fun r hq9 => ?_)
  rw [hq9]
  refine lv_if_ne (tgt := 10) hx hb dX8_read_4 (by decide) (fun c1 => ?_) (fun c1 => ?_)
  · skip
    rw [if_neg c1] at hJ
    rw [if_neg c1] at hV
    refine lv_aload_n hx hb dX8_read_10 rfl (lv_at hl 0 rfl) ?_
    refine lv_iload_n hx hb dX8_read_11 rfl (lv_at hl 1 rfl) ?_
    refine lv_iload_n hx hb dX8_read_12 rfl (lv_at hl 2 rfl) ?_
    refine vp_callSi (W.runS (As := [.int a1, .int a2]) (rest := [.ref y]) ⟨hx, hb, hml, hown, hts⟩ (qX8_rowOf l a1 a2) (va_cwS 2 hts gX8_read_X8_rowOf rfl rfl rfl (by decide +kernel) ⟨Nat.le_of_ble_eq_true rfl, Nat.le_of_ble_eq_true rfl⟩) ⟨fun _ _ _ _ q => q, fun U hU hW => rfl⟩ rfl rfl hl.1 rfl (lv_room (Nat.le_of_ble_eq_true rfl)) dX8_read_13 ⟨Nat.le_of_ble_eq_true rfl, Nat.le_of_ble_eq_true rfl⟩) (fun r hq9 => ?_)
    rw [hq9]
    refine lv_iload_n hx hb dX8_read_16 rfl (lv_at hl 3 rfl) ?_
    obtain ⟨hk2, hV⟩ := hV
    refine vp_callSi (W.runV (As := [.int (jX8_rowOf a1 a2), .int a3]) (rest := []) ⟨hx, hb, hml, hown, hts⟩ (qX8_cause l dC dI cy y bd H.size o (jX8_rowOf a1 a2) a3 hk2) (cwV 2 hts gX8_read_X8_cause rfl rfl rfl (by decide +kernel) ⟨Nat.le_of_ble_eq_true rfl, Nat.le_of_ble_eq_true rfl⟩) (pV hK hP hD hk (q0 := 0) rfl rfl) rfl rfl hl.1 rfl (lv_room (Nat.le_of_ble_eq_true rfl)) dX8_read_17 ⟨Nat.le_of_ble_eq_true rfl, Nat.le_of_ble_eq_true rfl⟩) (fun r hq9 => ?_)
    rw [hq9]
    refine lv_topi (fun y3 ey3 => ?_)
    rw [← ey3] at hJ
    rw [jX8_read_y3] at hJ
    rw [← ey3] at hV
    rw [sX8_read_y3] at hV
    have hV := hV.2
    refine lv_istore (lv' := [(4, .int y3), (0, .ref y), (1, .int a1), (2, .int a2), (3, .int a3)]) hx hb dX8_read_20 hl (by decide) rfl (fun ls hl => ?_)
    refine lv_iload hx hb dX8_read_22 (lv_at hl 0 rfl) ?_
    refine lv_if_eq (tgt := 34) hx hb dX8_read_24 (by decide) (fun c4 => ?_) (fun c4 => ?_)
    · skip
      rw [if_pos c4] at hJ
      rw [if_pos c4] at hV
      refine lv_aload_n hx hb dX8_read_34 rfl (lv_at hl 1 rfl) ?_
      refine lv_iload_n hx hb dX8_read_35 rfl (lv_at hl 3 rfl) ?_
      obtain ⟨hv, hV⟩ := hV
      refine jn_l (J := 71) (ls := ls) (v := (if a2 = 0 then ((jJxf58ca_floatToIntBits_5c35a (m_floats o (((16 : Int32) * a1) + a3).toNatClampNeg)).toInt64) else (jJxe99ae_doubleToLongBits_ccdee (m_doubles o (((16 : Int32) * a1) + a3).toNatClampNeg)))) (rest := [.ref y]) ?_ (fun y5 ey5 => ?_)
      · intro hj
        refine lv_if_eq (tgt := 56) hx hb dX8_read_36 (by decide) (fun c6 => ?_) (fun c6 => ?_)
        · skip
          rw [if_pos c6] at hj
          try rw [if_pos c6] at hv
          refine lv_aload_n hx hb dX8_read_56 rfl (lv_at hl 1 rfl) ?_
          refine va_get (D := (dC, dI)) (ci := 6) (v := .ref (bd 13)) (C := RX8) (T := TX8) (N := 20) (fs := wm_f bd o) hx hb hts hi_wsX80 hown hK hP 0 rfl rfl 15 (by decide) (hts (.fieldLink RX8 53 "OrreryDialsModel" "floats" "[F") (by decide +kernel)) (fun _ h9 => h9) rfl dX8_read_57 ?_
          refine lv_bipush (v := (16 : Int32)) hx hb dX8_read_60 (by decide) ?_
          refine lv_iload_n hx hb dX8_read_62 rfl (lv_at hl 2 rfl) ?_
          refine lv_imul hx hb dX8_read_63 ?_
          refine lv_iload_n hx hb dX8_read_64 rfl (lv_at hl 4 rfl) ?_
          refine lv_iadd hx hb dX8_read_65 ?_
          obtain ⟨hk7, hv⟩ := hv
          refine va_fald hx hb hK hP 14 3 rfl rfl hk7 dX8_read_66 ?_
          refine vp_callSi (W.runS (As := [.float (m_floats o (((16 : Int32) * a1) + a3).toNatClampNeg)]) (rest := [.ref y]) ⟨hx, hb, hml, hown, hts⟩ (qJxf58ca_floatToIntBits_5c35a l (m_floats o (((16 : Int32) * a1) + a3).toNatClampNeg)) (va_cwS 1 hts gX8_read_Jxf58ca_floatToIntBits_5c35a rfl rfl rfl (by decide +kernel) ⟨Nat.le_of_ble_eq_true rfl, Nat.le_of_ble_eq_true rfl⟩) ⟨fun _ _ _ _ q => q, fun U hU hW => rfl⟩ rfl rfl hl.1 rfl (lv_room (Nat.le_of_ble_eq_true rfl)) dX8_read_67 ⟨Nat.le_of_ble_eq_true rfl, Nat.le_of_ble_eq_true rfl⟩) (fun r hq9 => ?_)
          rw [hq9]
          refine lv_i2l (v := (jJxf58ca_floatToIntBits_5c35a (m_floats o (((16 : Int32) * a1) + a3).toNatClampNeg)).toInt64) hx hb dX8_read_70 rfl ?_
          exact hj
        · skip
          rw [if_neg c6] at hj
          try rw [if_neg c6] at hv
          refine lv_aload_n hx hb dX8_read_39 rfl (lv_at hl 1 rfl) ?_
          refine va_get (D := (dC, dI)) (ci := 6) (v := .ref (bd 14)) (C := RX8) (T := TX8) (N := 20) (fs := wm_f bd o) hx hb hts hi_wsX80 hown hK hP 0 rfl rfl 16 (by decide) (hts (.fieldLink RX8 56 "OrreryDialsModel" "doubles" "[D") (by decide +kernel)) (fun _ h9 => h9) rfl dX8_read_40 ?_
          refine lv_bipush (v := (16 : Int32)) hx hb dX8_read_43 (by decide) ?_
          refine lv_iload_n hx hb dX8_read_45 rfl (lv_at hl 2 rfl) ?_
          refine lv_imul hx hb dX8_read_46 ?_
          refine lv_iload_n hx hb dX8_read_47 rfl (lv_at hl 4 rfl) ?_
          refine lv_iadd hx hb dX8_read_48 ?_
          obtain ⟨hk8, hv⟩ := hv
          refine va_dald hx hb hK hP 15 4 rfl rfl hk8 dX8_read_49 ?_
          refine vp_callSl (W.runS (As := [.double (m_doubles o (((16 : Int32) * a1) + a3).toNatClampNeg)]) (rest := [.ref y]) ⟨hx, hb, hml, hown, hts⟩ (qJxe99ae_doubleToLongBits_ccdee l (m_doubles o (((16 : Int32) * a1) + a3).toNatClampNeg)) (va_cwS 1 hts gX8_read_Jxe99ae_doubleToLongBits_ccdee rfl rfl rfl (by decide +kernel) ⟨Nat.le_of_ble_eq_true rfl, Nat.le_of_ble_eq_true rfl⟩) ⟨fun _ _ _ _ q => q, fun U hU hW => rfl⟩ rfl rfl hl.1 rfl (lv_room (Nat.le_of_ble_eq_true rfl)) dX8_read_50 ⟨Nat.le_of_ble_eq_true rfl, Nat.le_of_ble_eq_true rfl⟩) (fun r hq9 => ?_)
          rw [hq9]
          refine lv_goto (tgt := 71) hx hb dX8_read_53 (by decide) ?_
          exact hj
      rw [← ey5] at hJ
      rw [jX8_read_y5] at hJ
      rw [← ey5] at hV
      rw [sX8_read_y5] at hV
      have hV := hV.2
      refine va_put (D := (dC, dI)) (ci := 6) (v := .long y5) (ty := .long) (C := RX8) (T := TX8) (N := 20) (fs := wm_f bd o) hx hb hts hi_wsX80 tyX8 tyX8_ok nmX8 hown hK hP hD hS 0 rfl rfl 17 (by decide) (hts (.fieldLink RX8 202 "OrreryDialsModel" "seen" "J") (by decide +kernel)) (fun _ h9 => h9) rfl (by decide +kernel) rfl rfl (by rw [wm_len]; decide) dX8_read_71 (fun H locs hP hD hS => ?_)
      rw [wm_p_seen] at hP hD
      refine lv_aload_n hx hb dX8_read_74 rfl (lv_at hl 1 rfl) ?_
      refine lv_iconst (v := (1 : Int32)) hx hb dX8_read_75 (by decide) ?_
      refine cl_i (va_runV (As := [.int (1 : Int32)]) (rest := []) ⟨hx, hb, hml, hown, hts⟩ (qX8_done l dC dI cy y bd H.size (s_seen o y5) (1 : Int32)) (cwV 1 hts gX8_read_X8_done rfl rfl rfl (by decide +kernel) ⟨Nat.le_of_ble_eq_true rfl, Nat.le_of_ble_eq_true rfl⟩) (pV hK hP hD hk (q0 := 0) rfl rfl) rfl rfl hl.1 rfl (lv_room (Nat.le_of_ble_eq_true rfl)) dX8_read_76 ⟨Nat.le_of_ble_eq_true rfl, Nat.le_of_ble_eq_true rfl⟩) hD hS hA (fun r u H locs hw hP hD hS => ?_)
      have hr1 : r = (jX8_done (s_seen o y5) (1 : Int32)).1 := congrArg Prod.fst hw
      have hu1 : u = (jX8_done (s_seen o y5) (1 : Int32)).2 := congrArg Prod.snd hw
      rw [hu1] at hP hD
      rw [hr1]
      exact W.iret hx hb hr (fun t ht hW => ⟨⟨_, _, rfl, hJ.trans hE.symm, by rw [ht]; exact hP, va_K.moved hW.alike hK, hD⟩, hS.F ht⟩) hS.2.2 dX8_read_79
    · skip
      rw [if_neg c4] at hJ
      rw [if_neg c4] at hV
      refine lv_aload_n hx hb dX8_read_27 rfl (lv_at hl 1 rfl) ?_
      refine lv_iload hx hb dX8_read_28 (lv_at hl 0 rfl) ?_
      obtain ⟨hk9, hV⟩ := hV
      refine cl_i (va_runV (As := [.int y3]) (rest := []) ⟨hx, hb, hml, hown, hts⟩ (qX8_fails l dC dI cy y bd H.size o y3 hk9) (cwV 1 hts gX8_read_X8_fails rfl rfl rfl (by decide +kernel) ⟨Nat.le_of_ble_eq_true rfl, Nat.le_of_ble_eq_true rfl⟩) (pV hK hP hD hk (q0 := 0) rfl rfl) rfl rfl hl.1 rfl (lv_room (Nat.le_of_ble_eq_true rfl)) dX8_read_30 ⟨Nat.le_of_ble_eq_true rfl, Nat.le_of_ble_eq_true rfl⟩) hD hS hA (fun r u H locs hw hP hD hS => ?_)
      have hr1 : r = (jX8_fails o y3).1 := congrArg Prod.fst hw
      have hu1 : u = (jX8_fails o y3).2 := congrArg Prod.snd hw
      rw [hu1] at hP hD
      rw [hr1]
      exact W.iret hx hb hr (fun t ht hW => ⟨⟨_, _, rfl, hJ.trans hE.symm, by rw [ht]; exact hP, va_K.moved hW.alike hK, hD⟩, hS.F ht⟩) hS.2.2 dX8_read_33
  · skip
    rw [if_pos c1] at hJ
    rw [if_pos c1] at hV
    refine lv_bipush (v := (-101 : Int32)) hx hb dX8_read_7 (by decide) ?_
    exact W.iret hx hb hr (fun t ht hW => ⟨⟨_, _, rfl, hJ.trans hE.symm, by rw [ht]; exact hP, va_K.moved hW.alike hK, hD⟩, hS.F ht⟩) hS.2.2 dX8_read_9
def jX8_seen (o : Ms) : Int64 := (m_seen o)
set_option linter.constructorNameAsVariable false in
set_option maxHeartbeats 8000000 in
set_option maxRecDepth 100000 in
theorem qX8_seen (l : Launch) (dC : Nat → ClassId) (dI : Nat → Nat → Nat) (cy : Nat → ClassId) (y : Nat) (bd : Nat → Nat) (sz : Nat) (o : Ms) : Met l yX8_seen wsX8_seen ({ frames := 0, cells := 0, slots := 0, locals := 0 }) (va_Pc [.ref y] (wI (dC, dI) (tyA cy) (WM cy y bd o) sz)) (vp_Sl (fun r => r = jX8_seen o)) 0 0 (fun _ => False) := by
  refine Met.ofW (cc := cX8_seen) (maxL := 1) (ret := some .long) (by decide) rfl ?_
  intro p e s m args below meth c s₁ B hml hv
  obtain ⟨rfl, hsz, hP, hK, hD0, hk⟩ := hv
  have hx := B.exec
  have hb := B.bytes
  have hr := B.returns
  have hts := atoms_spec (ws := wsX8_seen) B.pre
  have hown : s.vm.findClass RX8 = some m.cls := findClass_of_methodNamed B.named
  have hlocks := B.notSynchronized
  subst hsz
  have hD := hD0
  obtain ⟨H, hHe⟩ : ∃ H, s.heap = H := ⟨_, rfl⟩
  have hP : va_P (dC, dI) vwCl (WM cy y bd o) H := by rw [← hHe]; exact hP
  rw [w_heap hHe]
  have hi_wsX80 : ∀ w ∈ wsX80, w ∈ wsX8_seen := fun _ h => List.mem_cons_of_mem _ (List.mem_append_right _ h)
  obtain ⟨JR, hE⟩ : ∃ q, jX8_seen o = q := ⟨_, rfl⟩
  have hJ := hE
  rw [jX8_seen] at hJ
  have hl := lv_entry ([.ref y]) (n := 1) (Nat.le_of_ble_eq_true rfl)
  rw [lg_entry_eq]
  generalize (lg_sl ([.ref y]) ++ List.replicate (1 - (lg_sl ([.ref y])).length) Slot.unset).toArray = ls at hl ⊢
  have hl : lv_has ls 1 [(0, .ref y)] := hl
  refine lv_aload_n hx hb dX8_seen_0 rfl (lv_at hl 0 rfl) ?_
  refine va_get (D := (dC, dI)) (ci := 6) (v := .long (m_seen o)) (C := RX8) (T := TX8) (N := 20) (fs := wm_f bd o) hx hb hts hi_wsX80 hown hK hP 0 rfl rfl 17 (by decide) (hts (.fieldLink RX8 202 "OrreryDialsModel" "seen" "J") (by decide +kernel)) (fun _ h9 => h9) rfl dX8_seen_1 ?_
  exact W.lret hx hb hr (fun t ht hW => ⟨_, rfl, hJ.trans hE.symm, ht.trans hHe.symm⟩) (fun q h => absurd h List.not_mem_nil) dX8_seen_4
