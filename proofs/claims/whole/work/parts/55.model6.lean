def jX8_note_y8 (o : Ms) (a1 : Int32) (a2 : Int32) (a3 : Int32) (a4 : Int32) (y4 : Int32) (y8 : UInt32) : Int32 × Ms := ((jX8_done (s_floats o (vf_upd (m_floats o) (((16 : Int32) * a1) + a3).toNatClampNeg y8)) (1 : Int32)).1, (jX8_done (s_floats o (vf_upd (m_floats o) (((16 : Int32) * a1) + a3).toNatClampNeg y8)) (1 : Int32)).2)
def sX8_note_y8 (o : Ms) (a1 : Int32) (a2 : Int32) (a3 : Int32) (a4 : Int32) (y4 : Int32) (y8 : UInt32) : Prop := True ∧ (vp_in (((16 : Int32) * a1) + a3) 128 ∧ True)
def jX8_note_y15 (o : Ms) (a1 : Int32) (a2 : Int32) (a3 : Int32) (a4 : Int32) (y4 : Int32) (y15 : UInt64) : Int32 × Ms := ((jX8_done (s_doubles o (vf_upd (m_doubles o) (((16 : Int32) * a1) + a3).toNatClampNeg y15)) (1 : Int32)).1, (jX8_done (s_doubles o (vf_upd (m_doubles o) (((16 : Int32) * a1) + a3).toNatClampNeg y15)) (1 : Int32)).2)
def sX8_note_y15 (o : Ms) (a1 : Int32) (a2 : Int32) (a3 : Int32) (a4 : Int32) (y4 : Int32) (y15 : UInt64) : Prop := True ∧ (vp_in (((16 : Int32) * a1) + a3) 128 ∧ True)
def jX8_note_y4 (o : Ms) (a1 : Int32) (a2 : Int32) (a3 : Int32) (a4 : Int32) (y4 : Int32) : Int32 × Ms := (if y4 = 0 then (if a2 = 0 then (jX8_note_y8 o a1 a2 a3 a4 y4 (if (m_isFine o a4.toNatClampNeg) = 0 then (m_placeF o a4.toNatClampNeg) else (FP.d2f (m_placeD o a4.toNatClampNeg)))) else (jX8_note_y15 o a1 a2 a3 a4 y4 (if (m_isFine o a4.toNatClampNeg) = 0 then (FP.f2d (m_placeF o a4.toNatClampNeg)) else (m_placeD o a4.toNatClampNeg)))) else ((jX8_fails o y4).1, (jX8_fails o y4).2))
def sX8_note_y4 (o : Ms) (a1 : Int32) (a2 : Int32) (a3 : Int32) (a4 : Int32) (y4 : Int32) : Prop := True ∧ (if y4 = 0 then (if a2 = 0 then (vp_in a4 12 ∧ ((if (m_isFine o a4.toNatClampNeg) = 0 then (vp_in a4 12 ∧ True) else (vp_in a4 12 ∧ (vf_n32 (FP.d2f (m_placeD o a4.toNatClampNeg)) ∧ True))) ∧ (sX8_note_y8 o a1 a2 a3 a4 y4 (if (m_isFine o a4.toNatClampNeg) = 0 then (m_placeF o a4.toNatClampNeg) else (FP.d2f (m_placeD o a4.toNatClampNeg)))))) else (vp_in a4 12 ∧ ((if (m_isFine o a4.toNatClampNeg) = 0 then (vp_in a4 12 ∧ (vf_n64 (FP.f2d (m_placeF o a4.toNatClampNeg)) ∧ True)) else (vp_in a4 12 ∧ True)) ∧ (sX8_note_y15 o a1 a2 a3 a4 y4 (if (m_isFine o a4.toNatClampNeg) = 0 then (FP.f2d (m_placeF o a4.toNatClampNeg)) else (m_placeD o a4.toNatClampNeg)))))) else (sX8_fails o y4 ∧ True))
def jX8_note (o : Ms) (a1 : Int32) (a2 : Int32) (a3 : Int32) (a4 : Int32) : Int32 × Ms := (if (jX8_isLog a1) = 0 then ((-101 : Int32), o) else (if (jX8_isDial o a4) = 0 then ((-101 : Int32), o) else (jX8_note_y4 o a1 a2 a3 a4 (jX8_cause o (jX8_rowOf a1 a2) a3))))
def sX8_note (o : Ms) (a1 : Int32) (a2 : Int32) (a3 : Int32) (a4 : Int32) : Prop := True ∧ (if (jX8_isLog a1) = 0 then True else (if (jX8_isDial o a4) = 0 then True else (sX8_cause o (jX8_rowOf a1 a2) a3 ∧ (sX8_note_y4 o a1 a2 a3 a4 (jX8_cause o (jX8_rowOf a1 a2) a3)))))
set_option linter.constructorNameAsVariable false in
set_option maxHeartbeats 8000000 in
set_option maxRecDepth 100000 in
theorem qX8_note (l : Launch) (dC : Nat → ClassId) (dI : Nat → Nat → Nat) (cy : Nat → ClassId) (y : Nat) (bd : Nat → Nat) (sz : Nat) (o : Ms) (a1 : Int32) (a2 : Int32) (a3 : Int32) (a4 : Int32) (hV : sX8_note o a1 a2 a3 a4) : Met l yX8_note wsX8_note ({ frames := 2, cells := 0, slots := 0, locals := 47 }) (va_Pc [.ref y, .int a1, .int a2, .int a3, .int a4] (wI (dC, dI) (tyA cy) (WM cy y bd o) sz)) (va_Qi (fun r u => (r, u) = jX8_note o a1 a2 a3 a4) (fun u t => wO (dC, dI) (tyA cy) (va_A (WM cy y bd o) sz) (WM cy y bd u) t) (va_A (WM cy y bd o) sz)) 0 0 (va_A (WM cy y bd o) sz) := by
  refine Met.ofW (cc := cX8_note) (maxL := 6) (ret := some .int) (by decide) rfl ?_
  intro p e s m args below meth c s₁ B hml hv
  obtain ⟨rfl, hsz, hP, hK, hD0, hk⟩ := hv
  have hx := B.exec
  have hb := B.bytes
  have hr := B.returns
  have hts := atoms_spec (ws := wsX8_note) B.pre
  have hown : s.vm.findClass RX8 = some m.cls := findClass_of_methodNamed B.named
  have hlocks := B.notSynchronized
  subst hsz
  have hD := hD0.self (sz := s.heap.size)
  generalize hAe : va_A (WM cy y bd o) s.heap.size = A at hD ⊢
  have hA : ∀ q : Nat, s.heap.size ≤ q → A q := fun q h => by rw [← hAe]; exact Or.inr h
  obtain ⟨H, hHe⟩ : ∃ H, s.heap = H := ⟨_, rfl⟩
  have hP : va_P (dC, dI) vwCl (WM cy y bd o) H := by rw [← hHe]; exact hP
  have hS : va_S A s.heap H [] := by rw [← hHe]; exact va_S.rf
  rw [w_heap hHe]
  have hi_wsX80 : ∀ w ∈ wsX80, w ∈ wsX8_note := fun _ h => List.mem_cons_of_mem _ (List.mem_append_right _ h)
  obtain ⟨JR, hE⟩ : ∃ q, jX8_note o a1 a2 a3 a4 = q := ⟨_, rfl⟩
  have hJ := hE
  rw [jX8_note] at hJ
  rw [sX8_note] at hV
  have hV := hV.2
  have hl := lv_entry ([.ref y, .int a1, .int a2, .int a3, .int a4]) (n := 6) (Nat.le_of_ble_eq_true rfl)
  rw [lg_entry_eq]
  generalize (lg_sl ([.ref y, .int a1, .int a2, .int a3, .int a4]) ++ List.replicate (6 - (lg_sl ([.ref y, .int a1, .int a2, .int a3, .int a4])).length) Slot.unset).toArray = ls at hl ⊢
  have hl : lv_has ls 6 [(0, .ref y), (1, .int a1), (2, .int a2), (3, .int a3), (4, .int a4)] := hl
  refine lv_iload_n hx hb dX8_note_0 rfl (lv_at hl 1 rfl) ?_
  refine vp_callSi (W.runS (As := [.int a1]) (rest := []) ⟨hx, hb, hml, hown, hts⟩ (qX8_isLog l a1) (va_cwS 1 hts gX8_note_X8_isLog rfl rfl rfl (by decide +kernel) ⟨Nat.le_of_ble_eq_true rfl, Nat.le_of_ble_eq_true rfl⟩) ⟨fun _ _ _ _ q => q, fun U hU hW => rfl⟩ rfl rfl hl.1 rfl (lv_room (Nat.le_of_ble_eq_true rfl)) dX8_note_1 ⟨Nat.le_of_ble_eq_true rfl, Nat.le_of_ble_eq_true rfl⟩) (fun r hq9 => ?_)
  rw [hq9]
  refine lv_if_eq (tgt := 16) hx hb dX8_note_4 (by decide) (fun c1 => ?_) (fun c1 => ?_)
  · skip
    rw [if_pos c1] at hJ
    rw [if_pos c1] at hV
    refine lv_bipush (v := (-101 : Int32)) hx hb dX8_note_16 (by decide) ?_
    exact W.iret hx hb hr (fun t ht hW => ⟨⟨_, _, rfl, hJ.trans hE.symm, by rw [ht]; exact hP, va_K.moved hW.alike hK, hD⟩, hS.F ht⟩) hS.2.2 dX8_note_18
  · skip
    rw [if_neg c1] at hJ
    rw [if_neg c1] at hV
    refine lv_aload_n hx hb dX8_note_7 rfl (lv_at hl 0 rfl) ?_
    refine lv_iload hx hb dX8_note_8 (lv_at hl 4 rfl) ?_
    refine vp_callSi (W.runV (As := [.int a4]) (rest := []) ⟨hx, hb, hml, hown, hts⟩ (qX8_isDial l dC dI cy y bd H.size o a4) (cwV 1 hts gX8_note_X8_isDial rfl rfl rfl (by decide +kernel) ⟨Nat.le_of_ble_eq_true rfl, Nat.le_of_ble_eq_true rfl⟩) (pV hK hP hD hk (q0 := 0) rfl rfl) rfl rfl hl.1 rfl (lv_room (Nat.le_of_ble_eq_true rfl)) dX8_note_10 ⟨Nat.le_of_ble_eq_true rfl, Nat.le_of_ble_eq_true rfl⟩) (fun r hq9 => ?_)
    rw [hq9]
    refine lv_if_ne (tgt := 19) hx hb dX8_note_13 (by decide) (fun c2 => ?_) (fun c2 => ?_)
    · skip
      rw [if_neg c2] at hJ
      rw [if_neg c2] at hV
      refine lv_aload_n hx hb dX8_note_19 rfl (lv_at hl 0 rfl) ?_
      refine lv_iload_n hx hb dX8_note_20 rfl (lv_at hl 1 rfl) ?_
      refine lv_iload_n hx hb dX8_note_21 rfl (lv_at hl 2 rfl) ?_
      refine vp_callSi (W.runS (As := [.int a1, .int a2]) (rest := [.ref y]) ⟨hx, hb, hml, hown, hts⟩ (qX8_rowOf l a1 a2) (va_cwS 2 hts gX8_note_X8_rowOf rfl rfl rfl (by decide +kernel) ⟨Nat.le_of_ble_eq_true rfl, Nat.le_of_ble_eq_true rfl⟩) ⟨fun _ _ _ _ q => q, fun U hU hW => rfl⟩ rfl rfl hl.1 rfl (lv_room (Nat.le_of_ble_eq_true rfl)) dX8_note_22 ⟨Nat.le_of_ble_eq_true rfl, Nat.le_of_ble_eq_true rfl⟩) (fun r hq9 => ?_)
      rw [hq9]
      refine lv_iload_n hx hb dX8_note_25 rfl (lv_at hl 3 rfl) ?_
      obtain ⟨hk3, hV⟩ := hV
      refine vp_callSi (W.runV (As := [.int (jX8_rowOf a1 a2), .int a3]) (rest := []) ⟨hx, hb, hml, hown, hts⟩ (qX8_cause l dC dI cy y bd H.size o (jX8_rowOf a1 a2) a3 hk3) (cwV 2 hts gX8_note_X8_cause rfl rfl rfl (by decide +kernel) ⟨Nat.le_of_ble_eq_true rfl, Nat.le_of_ble_eq_true rfl⟩) (pV hK hP hD hk (q0 := 0) rfl rfl) rfl rfl hl.1 rfl (lv_room (Nat.le_of_ble_eq_true rfl)) dX8_note_26 ⟨Nat.le_of_ble_eq_true rfl, Nat.le_of_ble_eq_true rfl⟩) (fun r hq9 => ?_)
      rw [hq9]
      refine lv_topi (fun y4 ey4 => ?_)
      rw [← ey4] at hJ
      rw [jX8_note_y4] at hJ
      rw [← ey4] at hV
      rw [sX8_note_y4] at hV
      have hV := hV.2
      refine lv_istore (lv' := [(5, .int y4), (0, .ref y), (1, .int a1), (2, .int a2), (3, .int a3), (4, .int a4)]) hx hb dX8_note_29 hl (by decide) rfl (fun ls hl => ?_)
      refine lv_iload hx hb dX8_note_31 (lv_at hl 0 rfl) ?_
      refine lv_if_eq (tgt := 43) hx hb dX8_note_33 (by decide) (fun c5 => ?_) (fun c5 => ?_)
      · skip
        rw [if_pos c5] at hJ
        rw [if_pos c5] at hV
        refine lv_iload_n hx hb dX8_note_43 rfl (lv_at hl 3 rfl) ?_
        refine lv_if_eq (tgt := 89) hx hb dX8_note_44 (by decide) (fun c6 => ?_) (fun c6 => ?_)
        · skip
          rw [if_pos c6] at hJ
          rw [if_pos c6] at hV
          refine lv_aload_n hx hb dX8_note_89 rfl (lv_at hl 1 rfl) ?_
          refine va_get (D := (dC, dI)) (ci := 6) (v := .ref (bd 13)) (C := RX8) (T := TX8) (N := 20) (fs := wm_f bd o) hx hb hts hi_wsX80 hown hK hP 0 rfl rfl 15 (by decide) (hts (.fieldLink RX8 53 "OrreryDialsModel" "floats" "[F") (by decide +kernel)) (fun _ h9 => h9) rfl dX8_note_90 ?_
          refine lv_bipush (v := (16 : Int32)) hx hb dX8_note_93 (by decide) ?_
          refine lv_iload_n hx hb dX8_note_95 rfl (lv_at hl 2 rfl) ?_
          refine lv_imul hx hb dX8_note_96 ?_
          refine lv_iload_n hx hb dX8_note_97 rfl (lv_at hl 4 rfl) ?_
          refine lv_iadd hx hb dX8_note_98 ?_
          refine lv_aload_n hx hb dX8_note_99 rfl (lv_at hl 1 rfl) ?_
          refine va_get (D := (dC, dI)) (ci := 6) (v := .ref (bd 0)) (C := RX8) (T := TX8) (N := 20) (fs := wm_f bd o) hx hb hts hi_wsX80 hown hK hP 0 rfl rfl 1 (by decide) (hts (.fieldLink RX8 7 "OrreryDialsModel" "isFine" "[Z") (by decide +kernel)) (fun _ h9 => h9) rfl dX8_note_100 ?_
          refine lv_iload hx hb dX8_note_103 (lv_at hl 5 rfl) ?_
          obtain ⟨hk7, hV⟩ := hV
          refine va_zald hx hb hK hP 1 2 rfl rfl hk7 dX8_note_105 ?_
          obtain ⟨hv, hV⟩ := hV
          refine jn_f (J := 127) (ls := ls) (v := (if (m_isFine o a4.toNatClampNeg) = 0 then (m_placeF o a4.toNatClampNeg) else (FP.d2f (m_placeD o a4.toNatClampNeg)))) (rest := [.int (((16 : Int32) * a1) + a3), .ref (bd 13)]) ?_ (fun y8 ey8 => ?_)
          · intro hj
            refine lv_if_eq (tgt := 120) hx hb dX8_note_106 (by decide) (fun c9 => ?_) (fun c9 => ?_)
            · skip
              rw [if_pos c9] at hj
              try rw [if_pos c9] at hv
              refine lv_aload_n hx hb dX8_note_120 rfl (lv_at hl 1 rfl) ?_
              refine va_get (D := (dC, dI)) (ci := 6) (v := .ref (bd 2)) (C := RX8) (T := TX8) (N := 20) (fs := wm_f bd o) hx hb hts hi_wsX80 hown hK hP 0 rfl rfl 3 (by decide) (hts (.fieldLink RX8 17 "OrreryDialsModel" "placeF" "[F") (by decide +kernel)) (fun _ h9 => h9) rfl dX8_note_121 ?_
              refine lv_iload hx hb dX8_note_124 (lv_at hl 5 rfl) ?_
              obtain ⟨hk10, hv⟩ := hv
              refine va_fald hx hb hK hP 3 3 rfl rfl hk10 dX8_note_126 ?_
              exact hj
            · skip
              rw [if_neg c9] at hj
              try rw [if_neg c9] at hv
              refine lv_aload_n hx hb dX8_note_109 rfl (lv_at hl 1 rfl) ?_
              refine va_get (D := (dC, dI)) (ci := 6) (v := .ref (bd 4)) (C := RX8) (T := TX8) (N := 20) (fs := wm_f bd o) hx hb hts hi_wsX80 hown hK hP 0 rfl rfl 5 (by decide) (hts (.fieldLink RX8 24 "OrreryDialsModel" "placeD" "[D") (by decide +kernel)) (fun _ h9 => h9) rfl dX8_note_110 ?_
              refine lv_iload hx hb dX8_note_113 (lv_at hl 5 rfl) ?_
              obtain ⟨hk11, hv⟩ := hv
              refine va_dald hx hb hK hP 5 4 rfl rfl hk11 dX8_note_115 ?_
              obtain ⟨hk12, hv⟩ := hv
              refine lv_d2f hx hb dX8_note_116 hk12 ?_
              refine lv_goto (tgt := 127) hx hb dX8_note_117 (by decide) ?_
              exact hj
          rw [← ey8] at hJ
          rw [jX8_note_y8] at hJ
          rw [← ey8] at hV
          rw [sX8_note_y8] at hV
          have hV := hV.2
          obtain ⟨hk13, hV⟩ := hV
          refine va_fast hx hb hK hP hD hS 14 3 rfl rfl hk13 dX8_note_127 (fun H locs hP hD hS => ?_)
          rw [wm_a_floats] at hP hD
          refine lv_aload_n hx hb dX8_note_128 rfl (lv_at hl 1 rfl) ?_
          refine lv_iconst (v := (1 : Int32)) hx hb dX8_note_129 (by decide) ?_
          refine cl_i (va_runV (As := [.int (1 : Int32)]) (rest := []) ⟨hx, hb, hml, hown, hts⟩ (qX8_done l dC dI cy y bd H.size (s_floats o (vf_upd (m_floats o) (((16 : Int32) * a1) + a3).toNatClampNeg y8)) (1 : Int32)) (cwV 1 hts gX8_note_X8_done rfl rfl rfl (by decide +kernel) ⟨Nat.le_of_ble_eq_true rfl, Nat.le_of_ble_eq_true rfl⟩) (pV hK hP hD hk (q0 := 0) rfl rfl) rfl rfl hl.1 rfl (lv_room (Nat.le_of_ble_eq_true rfl)) dX8_note_130 ⟨Nat.le_of_ble_eq_true rfl, Nat.le_of_ble_eq_true rfl⟩) hD hS hA (fun r u H locs hw hP hD hS => ?_)
          have hr1 : r = (jX8_done (s_floats o (vf_upd (m_floats o) (((16 : Int32) * a1) + a3).toNatClampNeg y8)) (1 : Int32)).1 := congrArg Prod.fst hw
          have hu1 : u = (jX8_done (s_floats o (vf_upd (m_floats o) (((16 : Int32) * a1) + a3).toNatClampNeg y8)) (1 : Int32)).2 := congrArg Prod.snd hw
          rw [hu1] at hP hD
          rw [hr1]
          exact W.iret hx hb hr (fun t ht hW => ⟨⟨_, _, rfl, hJ.trans hE.symm, by rw [ht]; exact hP, va_K.moved hW.alike hK, hD⟩, hS.F ht⟩) hS.2.2 dX8_note_133
        · skip
          rw [if_neg c6] at hJ
          rw [if_neg c6] at hV
          refine lv_aload_n hx hb dX8_note_47 rfl (lv_at hl 1 rfl) ?_
          refine va_get (D := (dC, dI)) (ci := 6) (v := .ref (bd 14)) (C := RX8) (T := TX8) (N := 20) (fs := wm_f bd o) hx hb hts hi_wsX80 hown hK hP 0 rfl rfl 16 (by decide) (hts (.fieldLink RX8 56 "OrreryDialsModel" "doubles" "[D") (by decide +kernel)) (fun _ h9 => h9) rfl dX8_note_48 ?_
          refine lv_bipush (v := (16 : Int32)) hx hb dX8_note_51 (by decide) ?_
          refine lv_iload_n hx hb dX8_note_53 rfl (lv_at hl 2 rfl) ?_
          refine lv_imul hx hb dX8_note_54 ?_
          refine lv_iload_n hx hb dX8_note_55 rfl (lv_at hl 4 rfl) ?_
          refine lv_iadd hx hb dX8_note_56 ?_
          refine lv_aload_n hx hb dX8_note_57 rfl (lv_at hl 1 rfl) ?_
          refine va_get (D := (dC, dI)) (ci := 6) (v := .ref (bd 0)) (C := RX8) (T := TX8) (N := 20) (fs := wm_f bd o) hx hb hts hi_wsX80 hown hK hP 0 rfl rfl 1 (by decide) (hts (.fieldLink RX8 7 "OrreryDialsModel" "isFine" "[Z") (by decide +kernel)) (fun _ h9 => h9) rfl dX8_note_58 ?_
          refine lv_iload hx hb dX8_note_61 (lv_at hl 5 rfl) ?_
          obtain ⟨hk14, hV⟩ := hV
          refine va_zald hx hb hK hP 1 2 rfl rfl hk14 dX8_note_63 ?_
          obtain ⟨hv, hV⟩ := hV
          refine jn_d (J := 85) (ls := ls) (v := (if (m_isFine o a4.toNatClampNeg) = 0 then (FP.f2d (m_placeF o a4.toNatClampNeg)) else (m_placeD o a4.toNatClampNeg))) (rest := [.int (((16 : Int32) * a1) + a3), .ref (bd 14)]) ?_ (fun y15 ey15 => ?_)
          · intro hj
            refine lv_if_eq (tgt := 77) hx hb dX8_note_64 (by decide) (fun c16 => ?_) (fun c16 => ?_)
            · skip
              rw [if_pos c16] at hj
              try rw [if_pos c16] at hv
              refine lv_aload_n hx hb dX8_note_77 rfl (lv_at hl 1 rfl) ?_
              refine va_get (D := (dC, dI)) (ci := 6) (v := .ref (bd 2)) (C := RX8) (T := TX8) (N := 20) (fs := wm_f bd o) hx hb hts hi_wsX80 hown hK hP 0 rfl rfl 3 (by decide) (hts (.fieldLink RX8 17 "OrreryDialsModel" "placeF" "[F") (by decide +kernel)) (fun _ h9 => h9) rfl dX8_note_78 ?_
              refine lv_iload hx hb dX8_note_81 (lv_at hl 5 rfl) ?_
              obtain ⟨hk17, hv⟩ := hv
              refine va_fald hx hb hK hP 3 3 rfl rfl hk17 dX8_note_83 ?_
              obtain ⟨hk18, hv⟩ := hv
              refine lv_f2d hx hb dX8_note_84 hk18 ?_
              exact hj
            · skip
              rw [if_neg c16] at hj
              try rw [if_neg c16] at hv
              refine lv_aload_n hx hb dX8_note_67 rfl (lv_at hl 1 rfl) ?_
              refine va_get (D := (dC, dI)) (ci := 6) (v := .ref (bd 4)) (C := RX8) (T := TX8) (N := 20) (fs := wm_f bd o) hx hb hts hi_wsX80 hown hK hP 0 rfl rfl 5 (by decide) (hts (.fieldLink RX8 24 "OrreryDialsModel" "placeD" "[D") (by decide +kernel)) (fun _ h9 => h9) rfl dX8_note_68 ?_
              refine lv_iload hx hb dX8_note_71 (lv_at hl 5 rfl) ?_
              obtain ⟨hk19, hv⟩ := hv
              refine va_dald hx hb hK hP 5 4 rfl rfl hk19 dX8_note_73 ?_
              refine lv_goto (tgt := 85) hx hb dX8_note_74 (by decide) ?_
              exact hj
          rw [← ey15] at hJ
          rw [jX8_note_y15] at hJ
          rw [← ey15] at hV
          rw [sX8_note_y15] at hV
          have hV := hV.2
          obtain ⟨hk20, hV⟩ := hV
          refine va_dast hx hb hK hP hD hS 15 4 rfl rfl hk20 dX8_note_85 (fun H locs hP hD hS => ?_)
          rw [wm_a_doubles] at hP hD
          refine lv_goto (tgt := 128) hx hb dX8_note_86 (by decide) ?_
          refine lv_aload_n hx hb dX8_note_128 rfl (lv_at hl 1 rfl) ?_
          refine lv_iconst (v := (1 : Int32)) hx hb dX8_note_129 (by decide) ?_
          refine cl_i (va_runV (As := [.int (1 : Int32)]) (rest := []) ⟨hx, hb, hml, hown, hts⟩ (qX8_done l dC dI cy y bd H.size (s_doubles o (vf_upd (m_doubles o) (((16 : Int32) * a1) + a3).toNatClampNeg y15)) (1 : Int32)) (cwV 1 hts gX8_note_X8_done rfl rfl rfl (by decide +kernel) ⟨Nat.le_of_ble_eq_true rfl, Nat.le_of_ble_eq_true rfl⟩) (pV hK hP hD hk (q0 := 0) rfl rfl) rfl rfl hl.1 rfl (lv_room (Nat.le_of_ble_eq_true rfl)) dX8_note_130 ⟨Nat.le_of_ble_eq_true rfl, Nat.le_of_ble_eq_true rfl⟩) hD hS hA (fun r u H locs hw hP hD hS => ?_)
          have hr1 : r = (jX8_done (s_doubles o (vf_upd (m_doubles o) (((16 : Int32) * a1) + a3).toNatClampNeg y15)) (1 : Int32)).1 := congrArg Prod.fst hw
          have hu1 : u = (jX8_done (s_doubles o (vf_upd (m_doubles o) (((16 : Int32) * a1) + a3).toNatClampNeg y15)) (1 : Int32)).2 := congrArg Prod.snd hw
          rw [hu1] at hP hD
          rw [hr1]
          exact W.iret hx hb hr (fun t ht hW => ⟨⟨_, _, rfl, hJ.trans hE.symm, by rw [ht]; exact hP, va_K.moved hW.alike hK, hD⟩, hS.F ht⟩) hS.2.2 dX8_note_133
      · skip
        rw [if_neg c5] at hJ
        rw [if_neg c5] at hV
        refine lv_aload_n hx hb dX8_note_36 rfl (lv_at hl 1 rfl) ?_
        refine lv_iload hx hb dX8_note_37 (lv_at hl 0 rfl) ?_
        obtain ⟨hk21, hV⟩ := hV
        refine cl_i (va_runV (As := [.int y4]) (rest := []) ⟨hx, hb, hml, hown, hts⟩ (qX8_fails l dC dI cy y bd H.size o y4 hk21) (cwV 1 hts gX8_note_X8_fails rfl rfl rfl (by decide +kernel) ⟨Nat.le_of_ble_eq_true rfl, Nat.le_of_ble_eq_true rfl⟩) (pV hK hP hD hk (q0 := 0) rfl rfl) rfl rfl hl.1 rfl (lv_room (Nat.le_of_ble_eq_true rfl)) dX8_note_39 ⟨Nat.le_of_ble_eq_true rfl, Nat.le_of_ble_eq_true rfl⟩) hD hS hA (fun r u H locs hw hP hD hS => ?_)
        have hr1 : r = (jX8_fails o y4).1 := congrArg Prod.fst hw
        have hu1 : u = (jX8_fails o y4).2 := congrArg Prod.snd hw
        rw [hu1] at hP hD
        rw [hr1]
        exact W.iret hx hb hr (fun t ht hW => ⟨⟨_, _, rfl, hJ.trans hE.symm, by rw [ht]; exact hP, va_K.moved hW.alike hK, hD⟩, hS.F ht⟩) hS.2.2 dX8_note_42
    · skip
      rw [if_pos c2] at hJ
      rw [if_pos c2] at hV
      refine lv_bipush (v := (-101 : Int32)) hx hb dX8_note_16 (by decide) ?_
      exact W.iret hx hb hr (fun t ht hW => ⟨⟨_, _, rfl, hJ.trans hE.symm, by rw [ht]; exact hP, va_K.moved hW.alike hK, hD⟩, hS.F ht⟩) hS.2.2 dX8_note_18
def jX8_recall_y12 (o : Ms) (a1 : Int32) (a2 : Int32) (a3 : Int32) (a4 : Int32) (y4 : Int32) (y6 : UInt64) (y12 : UInt32) : Int32 × Ms := (if (jX8_isEndless y6) = 0 then (if (m_isFine o a4.toNatClampNeg) = 0 then (if (jX8_isEndlessFloat y12) = 0 then (if (m_isFine o a4.toNatClampNeg) = 0 then ((jX8_done (s_placeF o (vf_upd (m_placeF o) a4.toNatClampNeg (FP.frem y12 (m_rimF o a4.toNatClampNeg)))) (1 : Int32)).1, (jX8_done (s_placeF o (vf_upd (m_placeF o) a4.toNatClampNeg (FP.frem y12 (m_rimF o a4.toNatClampNeg)))) (1 : Int32)).2) else ((jX8_done (s_placeD o (vf_upd (m_placeD o) a4.toNatClampNeg (FP.drem y6 (m_rimD o a4.toNatClampNeg)))) (1 : Int32)).1, (jX8_done (s_placeD o (vf_upd (m_placeD o) a4.toNatClampNeg (FP.drem y6 (m_rimD o a4.toNatClampNeg)))) (1 : Int32)).2)) else ((jX8_fails o (-15 : Int32)).1, (jX8_fails o (-15 : Int32)).2)) else (if (m_isFine o a4.toNatClampNeg) = 0 then ((jX8_done (s_placeF o (vf_upd (m_placeF o) a4.toNatClampNeg (FP.frem y12 (m_rimF o a4.toNatClampNeg)))) (1 : Int32)).1, (jX8_done (s_placeF o (vf_upd (m_placeF o) a4.toNatClampNeg (FP.frem y12 (m_rimF o a4.toNatClampNeg)))) (1 : Int32)).2) else ((jX8_done (s_placeD o (vf_upd (m_placeD o) a4.toNatClampNeg (FP.drem y6 (m_rimD o a4.toNatClampNeg)))) (1 : Int32)).1, (jX8_done (s_placeD o (vf_upd (m_placeD o) a4.toNatClampNeg (FP.drem y6 (m_rimD o a4.toNatClampNeg)))) (1 : Int32)).2))) else ((jX8_fails o (-15 : Int32)).1, (jX8_fails o (-15 : Int32)).2))
def sX8_recall_y12 (o : Ms) (a1 : Int32) (a2 : Int32) (a3 : Int32) (a4 : Int32) (y4 : Int32) (y6 : UInt64) (y12 : UInt32) : Prop := True ∧ (if (jX8_isEndless y6) = 0 then (vp_in a4 12 ∧ (if (m_isFine o a4.toNatClampNeg) = 0 then (if (jX8_isEndlessFloat y12) = 0 then (vp_in a4 12 ∧ (if (m_isFine o a4.toNatClampNeg) = 0 then (vp_in a4 12 ∧ (vf_n32 (FP.frem y12 (m_rimF o a4.toNatClampNeg)) ∧ (vp_in a4 12 ∧ True))) else (vp_in a4 12 ∧ (vf_n64 (FP.drem y6 (m_rimD o a4.toNatClampNeg)) ∧ (vp_in a4 12 ∧ True))))) else (sX8_fails o (-15 : Int32) ∧ True)) else (vp_in a4 12 ∧ (if (m_isFine o a4.toNatClampNeg) = 0 then (vp_in a4 12 ∧ (vf_n32 (FP.frem y12 (m_rimF o a4.toNatClampNeg)) ∧ (vp_in a4 12 ∧ True))) else (vp_in a4 12 ∧ (vf_n64 (FP.drem y6 (m_rimD o a4.toNatClampNeg)) ∧ (vp_in a4 12 ∧ True))))))) else (sX8_fails o (-15 : Int32) ∧ True))
def jX8_recall_y6 (o : Ms) (a1 : Int32) (a2 : Int32) (a3 : Int32) (a4 : Int32) (y4 : Int32) (y6 : UInt64) : Int32 × Ms := (jX8_recall_y12 o a1 a2 a3 a4 y4 y6 (FP.d2f y6))
def sX8_recall_y6 (o : Ms) (a1 : Int32) (a2 : Int32) (a3 : Int32) (a4 : Int32) (y4 : Int32) (y6 : UInt64) : Prop := True ∧ (vf_n32 (FP.d2f y6) ∧ (sX8_recall_y12 o a1 a2 a3 a4 y4 y6 (FP.d2f y6)))
def jX8_recall_y4 (o : Ms) (a1 : Int32) (a2 : Int32) (a3 : Int32) (a4 : Int32) (y4 : Int32) : Int32 × Ms := (if y4 = 0 then (jX8_recall_y6 o a1 a2 a3 a4 y4 (if a2 = 0 then (FP.f2d (m_floats o (((16 : Int32) * a1) + a3).toNatClampNeg)) else (m_doubles o (((16 : Int32) * a1) + a3).toNatClampNeg))) else ((jX8_fails o y4).1, (jX8_fails o y4).2))
def sX8_recall_y4 (o : Ms) (a1 : Int32) (a2 : Int32) (a3 : Int32) (a4 : Int32) (y4 : Int32) : Prop := True ∧ (if y4 = 0 then ((if a2 = 0 then (vp_in (((16 : Int32) * a1) + a3) 128 ∧ (vf_n64 (FP.f2d (m_floats o (((16 : Int32) * a1) + a3).toNatClampNeg)) ∧ True)) else (vp_in (((16 : Int32) * a1) + a3) 128 ∧ True)) ∧ (sX8_recall_y6 o a1 a2 a3 a4 y4 (if a2 = 0 then (FP.f2d (m_floats o (((16 : Int32) * a1) + a3).toNatClampNeg)) else (m_doubles o (((16 : Int32) * a1) + a3).toNatClampNeg)))) else (sX8_fails o y4 ∧ True))
def jX8_recall (o : Ms) (a1 : Int32) (a2 : Int32) (a3 : Int32) (a4 : Int32) : Int32 × Ms := (if (jX8_isLog a1) = 0 then ((-101 : Int32), o) else (if (jX8_isDial o a4) = 0 then ((-101 : Int32), o) else (jX8_recall_y4 o a1 a2 a3 a4 (jX8_cause o (jX8_rowOf a1 a2) a3))))
def sX8_recall (o : Ms) (a1 : Int32) (a2 : Int32) (a3 : Int32) (a4 : Int32) : Prop := True ∧ (if (jX8_isLog a1) = 0 then True else (if (jX8_isDial o a4) = 0 then True else (sX8_cause o (jX8_rowOf a1 a2) a3 ∧ (sX8_recall_y4 o a1 a2 a3 a4 (jX8_cause o (jX8_rowOf a1 a2) a3)))))
set_option linter.constructorNameAsVariable false in
set_option maxHeartbeats 8000000 in
set_option maxRecDepth 100000 in
theorem qX8_recall (l : Launch) (dC : Nat → ClassId) (dI : Nat → Nat → Nat) (cy : Nat → ClassId) (y : Nat) (bd : Nat → Nat) (sz : Nat) (o : Ms) (a1 : Int32) (a2 : Int32) (a3 : Int32) (a4 : Int32) (hV : sX8_recall o a1 a2 a3 a4) : Met l yX8_recall wsX8_recall ({ frames := 2, cells := 0, slots := 0, locals := 47 }) (va_Pc [.ref y, .int a1, .int a2, .int a3, .int a4] (wI (dC, dI) (tyA cy) (WM cy y bd o) sz)) (va_Qi (fun r u => (r, u) = jX8_recall o a1 a2 a3 a4) (fun u t => wO (dC, dI) (tyA cy) (va_A (WM cy y bd o) sz) (WM cy y bd u) t) (va_A (WM cy y bd o) sz)) 0 0 (va_A (WM cy y bd o) sz) := by
  refine Met.ofW (cc := cX8_recall) (maxL := 9) (ret := some .int) (by decide) rfl ?_
  intro p e s m args below meth c s₁ B hml hv
  obtain ⟨rfl, hsz, hP, hK, hD0, hk⟩ := hv
  have hx := B.exec
  have hb := B.bytes
  have hr := B.returns
  have hts := atoms_spec (ws := wsX8_recall) B.pre
  have hown : s.vm.findClass RX8 = some m.cls := findClass_of_methodNamed B.named
  have hlocks := B.notSynchronized
  subst hsz
  have hD := hD0.self (sz := s.heap.size)
  generalize hAe : va_A (WM cy y bd o) s.heap.size = A at hD ⊢
  have hA : ∀ q : Nat, s.heap.size ≤ q → A q := fun q h => by rw [← hAe]; exact Or.inr h
  obtain ⟨H, hHe⟩ : ∃ H, s.heap = H := ⟨_, rfl⟩
  have hP : va_P (dC, dI) vwCl (WM cy y bd o) H := by rw [← hHe]; exact hP
  have hS : va_S A s.heap H [] := by rw [← hHe]; exact va_S.rf
  rw [w_heap hHe]
  have hi_wsX80 : ∀ w ∈ wsX80, w ∈ wsX8_recall := fun _ h => List.mem_cons_of_mem _ (List.mem_append_right _ h)
  obtain ⟨JR, hE⟩ : ∃ q, jX8_recall o a1 a2 a3 a4 = q := ⟨_, rfl⟩
  have hJ := hE
  rw [jX8_recall] at hJ
  rw [sX8_recall] at hV
  have hV := hV.2
  have hl := lv_entry ([.ref y, .int a1, .int a2, .int a3, .int a4]) (n := 9) (Nat.le_of_ble_eq_true rfl)
  rw [lg_entry_eq]
  generalize (lg_sl ([.ref y, .int a1, .int a2, .int a3, .int a4]) ++ List.replicate (9 - (lg_sl ([.ref y, .int a1, .int a2, .int a3, .int a4])).length) Slot.unset).toArray = ls at hl ⊢
  have hl : lv_has ls 9 [(0, .ref y), (1, .int a1), (2, .int a2), (3, .int a3), (4, .int a4)] := hl
  refine lv_iload_n hx hb dX8_recall_0 rfl (lv_at hl 1 rfl) ?_
  refine vp_callSi (W.runS (As := [.int a1]) (rest := []) ⟨hx, hb, hml, hown, hts⟩ (qX8_isLog l a1) (va_cwS 1 hts gX8_recall_X8_isLog rfl rfl rfl (by decide +kernel) ⟨Nat.le_of_ble_eq_true rfl, Nat.le_of_ble_eq_true rfl⟩) ⟨fun _ _ _ _ q => q, fun U hU hW => rfl⟩ rfl rfl hl.1 rfl (lv_room (Nat.le_of_ble_eq_true rfl)) dX8_recall_1 ⟨Nat.le_of_ble_eq_true rfl, Nat.le_of_ble_eq_true rfl⟩) (fun r hq9 => ?_)
  rw [hq9]
  refine lv_if_eq (tgt := 16) hx hb dX8_recall_4 (by decide) (fun c1 => ?_) (fun c1 => ?_)
  · skip
    rw [if_pos c1] at hJ
    rw [if_pos c1] at hV
    refine lv_bipush (v := (-101 : Int32)) hx hb dX8_recall_16 (by decide) ?_
    exact W.iret hx hb hr (fun t ht hW => ⟨⟨_, _, rfl, hJ.trans hE.symm, by rw [ht]; exact hP, va_K.moved hW.alike hK, hD⟩, hS.F ht⟩) hS.2.2 dX8_recall_18
  · skip
    rw [if_neg c1] at hJ
    rw [if_neg c1] at hV
    refine lv_aload_n hx hb dX8_recall_7 rfl (lv_at hl 0 rfl) ?_
    refine lv_iload hx hb dX8_recall_8 (lv_at hl 4 rfl) ?_
    refine vp_callSi (W.runV (As := [.int a4]) (rest := []) ⟨hx, hb, hml, hown, hts⟩ (qX8_isDial l dC dI cy y bd H.size o a4) (cwV 1 hts gX8_recall_X8_isDial rfl rfl rfl (by decide +kernel) ⟨Nat.le_of_ble_eq_true rfl, Nat.le_of_ble_eq_true rfl⟩) (pV hK hP hD hk (q0 := 0) rfl rfl) rfl rfl hl.1 rfl (lv_room (Nat.le_of_ble_eq_true rfl)) dX8_recall_10 ⟨Nat.le_of_ble_eq_true rfl, Nat.le_of_ble_eq_true rfl⟩) (fun r hq9 => ?_)
    rw [hq9]
    refine lv_if_ne (tgt := 19) hx hb dX8_recall_13 (by decide) (fun c2 => ?_) (fun c2 => ?_)
    · skip
      rw [if_neg c2] at hJ
      rw [if_neg c2] at hV
      refine lv_aload_n hx hb dX8_recall_19 rfl (lv_at hl 0 rfl) ?_
      refine lv_iload_n hx hb dX8_recall_20 rfl (lv_at hl 1 rfl) ?_
      refine lv_iload_n hx hb dX8_recall_21 rfl (lv_at hl 2 rfl) ?_
      refine vp_callSi (W.runS (As := [.int a1, .int a2]) (rest := [.ref y]) ⟨hx, hb, hml, hown, hts⟩ (qX8_rowOf l a1 a2) (va_cwS 2 hts gX8_recall_X8_rowOf rfl rfl rfl (by decide +kernel) ⟨Nat.le_of_ble_eq_true rfl, Nat.le_of_ble_eq_true rfl⟩) ⟨fun _ _ _ _ q => q, fun U hU hW => rfl⟩ rfl rfl hl.1 rfl (lv_room (Nat.le_of_ble_eq_true rfl)) dX8_recall_22 ⟨Nat.le_of_ble_eq_true rfl, Nat.le_of_ble_eq_true rfl⟩) (fun r hq9 => ?_)
      rw [hq9]
      refine lv_iload_n hx hb dX8_recall_25 rfl (lv_at hl 3 rfl) ?_
      obtain ⟨hk3, hV⟩ := hV
      refine vp_callSi (W.runV (As := [.int (jX8_rowOf a1 a2), .int a3]) (rest := []) ⟨hx, hb, hml, hown, hts⟩ (qX8_cause l dC dI cy y bd H.size o (jX8_rowOf a1 a2) a3 hk3) (cwV 2 hts gX8_recall_X8_cause rfl rfl rfl (by decide +kernel) ⟨Nat.le_of_ble_eq_true rfl, Nat.le_of_ble_eq_true rfl⟩) (pV hK hP hD hk (q0 := 0) rfl rfl) rfl rfl hl.1 rfl (lv_room (Nat.le_of_ble_eq_true rfl)) dX8_recall_26 ⟨Nat.le_of_ble_eq_true rfl, Nat.le_of_ble_eq_true rfl⟩) (fun r hq9 => ?_)
      rw [hq9]
      refine lv_topi (fun y4 ey4 => ?_)
      rw [← ey4] at hJ
      rw [jX8_recall_y4] at hJ
      rw [← ey4] at hV
      rw [sX8_recall_y4] at hV
      have hV := hV.2
      refine lv_istore (lv' := [(5, .int y4), (0, .ref y), (1, .int a1), (2, .int a2), (3, .int a3), (4, .int a4)]) hx hb dX8_recall_29 hl (by decide) rfl (fun ls hl => ?_)
      refine lv_iload hx hb dX8_recall_31 (lv_at hl 0 rfl) ?_
      refine lv_if_eq (tgt := 43) hx hb dX8_recall_33 (by decide) (fun c5 => ?_) (fun c5 => ?_)
      · skip
        rw [if_pos c5] at hJ
        rw [if_pos c5] at hV
        refine lv_iload_n hx hb dX8_recall_43 rfl (lv_at hl 3 rfl) ?_
        obtain ⟨hv, hV⟩ := hV
        refine jn_d (J := 73) (ls := ls) (v := (if a2 = 0 then (FP.f2d (m_floats o (((16 : Int32) * a1) + a3).toNatClampNeg)) else (m_doubles o (((16 : Int32) * a1) + a3).toNatClampNeg))) (rest := []) ?_ (fun y6 ey6 => ?_)
        · intro hj
          refine lv_if_eq (tgt := 61) hx hb dX8_recall_44 (by decide) (fun c7 => ?_) (fun c7 => ?_)
          · skip
            rw [if_pos c7] at hj
            try rw [if_pos c7] at hv
            refine lv_aload_n hx hb dX8_recall_61 rfl (lv_at hl 1 rfl) ?_
            refine va_get (D := (dC, dI)) (ci := 6) (v := .ref (bd 13)) (C := RX8) (T := TX8) (N := 20) (fs := wm_f bd o) hx hb hts hi_wsX80 hown hK hP 0 rfl rfl 15 (by decide) (hts (.fieldLink RX8 53 "OrreryDialsModel" "floats" "[F") (by decide +kernel)) (fun _ h9 => h9) rfl dX8_recall_62 ?_
            refine lv_bipush (v := (16 : Int32)) hx hb dX8_recall_65 (by decide) ?_
            refine lv_iload_n hx hb dX8_recall_67 rfl (lv_at hl 2 rfl) ?_
            refine lv_imul hx hb dX8_recall_68 ?_
            refine lv_iload_n hx hb dX8_recall_69 rfl (lv_at hl 4 rfl) ?_
            refine lv_iadd hx hb dX8_recall_70 ?_
            obtain ⟨hk8, hv⟩ := hv
            refine va_fald hx hb hK hP 14 3 rfl rfl hk8 dX8_recall_71 ?_
            obtain ⟨hk9, hv⟩ := hv
            refine lv_f2d hx hb dX8_recall_72 hk9 ?_
            exact hj
          · skip
            rw [if_neg c7] at hj
            try rw [if_neg c7] at hv
            refine lv_aload_n hx hb dX8_recall_47 rfl (lv_at hl 1 rfl) ?_
            refine va_get (D := (dC, dI)) (ci := 6) (v := .ref (bd 14)) (C := RX8) (T := TX8) (N := 20) (fs := wm_f bd o) hx hb hts hi_wsX80 hown hK hP 0 rfl rfl 16 (by decide) (hts (.fieldLink RX8 56 "OrreryDialsModel" "doubles" "[D") (by decide +kernel)) (fun _ h9 => h9) rfl dX8_recall_48 ?_
            refine lv_bipush (v := (16 : Int32)) hx hb dX8_recall_51 (by decide) ?_
            refine lv_iload_n hx hb dX8_recall_53 rfl (lv_at hl 2 rfl) ?_
            refine lv_imul hx hb dX8_recall_54 ?_
            refine lv_iload_n hx hb dX8_recall_55 rfl (lv_at hl 4 rfl) ?_
            refine lv_iadd hx hb dX8_recall_56 ?_
            obtain ⟨hk10, hv⟩ := hv
            refine va_dald hx hb hK hP 15 4 rfl rfl hk10 dX8_recall_57 ?_
            refine lv_goto (tgt := 73) hx hb dX8_recall_58 (by decide) ?_
            exact hj
        rw [← ey6] at hJ
        rw [jX8_recall_y6] at hJ
        rw [← ey6] at hV
        rw [sX8_recall_y6] at hV
        have hV := hV.2
        refine lv_dstore (lv' := [(6, .double y6), (5, .int y4), (0, .ref y), (1, .int a1), (2, .int a2), (3, .int a3), (4, .int a4)]) hx hb dX8_recall_73 hl (by decide) rfl (fun ls hl => ?_)
        refine lv_dload hx hb dX8_recall_75 (lv_at hl 0 rfl) ?_
        obtain ⟨hk11, hV⟩ := hV
        refine lv_d2f hx hb dX8_recall_77 hk11 ?_
        refine lv_topf (fun y12 ey12 => ?_)
        rw [← ey12] at hJ
        rw [jX8_recall_y12] at hJ
        rw [← ey12] at hV
        rw [sX8_recall_y12] at hV
        have hV := hV.2
        refine lv_fstore (lv' := [(8, .float y12), (6, .double y6), (5, .int y4), (0, .ref y), (1, .int a1), (2, .int a2), (3, .int a3), (4, .int a4)]) hx hb dX8_recall_78 hl (by decide) rfl (fun ls hl => ?_)
        refine lv_dload hx hb dX8_recall_80 (lv_at hl 1 rfl) ?_
        refine vp_callSi (W.runS (As := [.double y6]) (rest := []) ⟨hx, hb, hml, hown, hts⟩ (qX8_isEndless l y6) (va_cwS 1 hts gX8_recall_X8_isEndless rfl rfl rfl (by decide +kernel) ⟨Nat.le_of_ble_eq_true rfl, Nat.le_of_ble_eq_true rfl⟩) ⟨fun _ _ _ _ q => q, fun U hU hW => rfl⟩ rfl rfl hl.1 rfl (lv_room (Nat.le_of_ble_eq_true rfl)) dX8_recall_82 ⟨Nat.le_of_ble_eq_true rfl, Nat.le_of_ble_eq_true rfl⟩) (fun r hq9 => ?_)
        rw [hq9]
        refine lv_if_ne (tgt := 106) hx hb dX8_recall_85 (by decide) (fun c13 => ?_) (fun c13 => ?_)
        · skip
          rw [if_neg c13] at hJ
          rw [if_neg c13] at hV
          refine lv_aload_n hx hb dX8_recall_106 rfl (lv_at hl 3 rfl) ?_
          refine lv_bipush (v := (-15 : Int32)) hx hb dX8_recall_107 (by decide) ?_
          obtain ⟨hk14, hV⟩ := hV
          refine cl_i (va_runV (As := [.int (-15 : Int32)]) (rest := []) ⟨hx, hb, hml, hown, hts⟩ (qX8_fails l dC dI cy y bd H.size o (-15 : Int32) hk14) (cwV 1 hts gX8_recall_X8_fails rfl rfl rfl (by decide +kernel) ⟨Nat.le_of_ble_eq_true rfl, Nat.le_of_ble_eq_true rfl⟩) (pV hK hP hD hk (q0 := 0) rfl rfl) rfl rfl hl.1 rfl (lv_room (Nat.le_of_ble_eq_true rfl)) dX8_recall_109 ⟨Nat.le_of_ble_eq_true rfl, Nat.le_of_ble_eq_true rfl⟩) hD hS hA (fun r u H locs hw hP hD hS => ?_)
          have hr1 : r = (jX8_fails o (-15 : Int32)).1 := congrArg Prod.fst hw
          have hu1 : u = (jX8_fails o (-15 : Int32)).2 := congrArg Prod.snd hw
          rw [hu1] at hP hD
          rw [hr1]
          exact W.iret hx hb hr (fun t ht hW => ⟨⟨_, _, rfl, hJ.trans hE.symm, by rw [ht]; exact hP, va_K.moved hW.alike hK, hD⟩, hS.F ht⟩) hS.2.2 dX8_recall_112
        · skip
          rw [if_pos c13] at hJ
          rw [if_pos c13] at hV
          refine lv_aload_n hx hb dX8_recall_88 rfl (lv_at hl 3 rfl) ?_
          refine va_get (D := (dC, dI)) (ci := 6) (v := .ref (bd 0)) (C := RX8) (T := TX8) (N := 20) (fs := wm_f bd o) hx hb hts hi_wsX80 hown hK hP 0 rfl rfl 1 (by decide) (hts (.fieldLink RX8 7 "OrreryDialsModel" "isFine" "[Z") (by decide +kernel)) (fun _ h9 => h9) rfl dX8_recall_89 ?_
          refine lv_iload hx hb dX8_recall_92 (lv_at hl 7 rfl) ?_
          obtain ⟨hk15, hV⟩ := hV
          refine va_zald hx hb hK hP 1 2 rfl rfl hk15 dX8_recall_94 ?_
          refine lv_if_ne (tgt := 113) hx hb dX8_recall_95 (by decide) (fun c16 => ?_) (fun c16 => ?_)
          · skip
            rw [if_neg c16] at hJ
            rw [if_neg c16] at hV
            refine lv_aload_n hx hb dX8_recall_113 rfl (lv_at hl 3 rfl) ?_
            refine va_get (D := (dC, dI)) (ci := 6) (v := .ref (bd 0)) (C := RX8) (T := TX8) (N := 20) (fs := wm_f bd o) hx hb hts hi_wsX80 hown hK hP 0 rfl rfl 1 (by decide) (hts (.fieldLink RX8 7 "OrreryDialsModel" "isFine" "[Z") (by decide +kernel)) (fun _ h9 => h9) rfl dX8_recall_114 ?_
            refine lv_iload hx hb dX8_recall_117 (lv_at hl 7 rfl) ?_
            obtain ⟨hk17, hV⟩ := hV
            refine va_zald hx hb hK hP 1 2 rfl rfl hk17 dX8_recall_119 ?_
            refine lv_if_eq (tgt := 143) hx hb dX8_recall_120 (by decide) (fun c18 => ?_) (fun c18 => ?_)
            · skip
              rw [if_pos c18] at hJ
              rw [if_pos c18] at hV
              refine lv_aload_n hx hb dX8_recall_143 rfl (lv_at hl 3 rfl) ?_
              refine va_get (D := (dC, dI)) (ci := 6) (v := .ref (bd 2)) (C := RX8) (T := TX8) (N := 20) (fs := wm_f bd o) hx hb hts hi_wsX80 hown hK hP 0 rfl rfl 3 (by decide) (hts (.fieldLink RX8 17 "OrreryDialsModel" "placeF" "[F") (by decide +kernel)) (fun _ h9 => h9) rfl dX8_recall_144 ?_
              refine lv_iload hx hb dX8_recall_147 (lv_at hl 7 rfl) ?_
              refine lv_fload hx hb dX8_recall_149 (lv_at hl 0 rfl) ?_
              refine lv_aload_n hx hb dX8_recall_151 rfl (lv_at hl 3 rfl) ?_
              refine va_get (D := (dC, dI)) (ci := 6) (v := .ref (bd 1)) (C := RX8) (T := TX8) (N := 20) (fs := wm_f bd o) hx hb hts hi_wsX80 hown hK hP 0 rfl rfl 2 (by decide) (hts (.fieldLink RX8 13 "OrreryDialsModel" "rimF" "[F") (by decide +kernel)) (fun _ h9 => h9) rfl dX8_recall_152 ?_
              refine lv_iload hx hb dX8_recall_155 (lv_at hl 7 rfl) ?_
              obtain ⟨hk19, hV⟩ := hV
              refine va_fald hx hb hK hP 2 3 rfl rfl hk19 dX8_recall_157 ?_
              obtain ⟨hk20, hV⟩ := hV
              refine lv_frem hx hb dX8_recall_158 hk20 ?_
              obtain ⟨hk21, hV⟩ := hV
              refine va_fast hx hb hK hP hD hS 3 3 rfl rfl hk21 dX8_recall_159 (fun H locs hP hD hS => ?_)
              rw [wm_a_placeF] at hP hD
              refine lv_aload_n hx hb dX8_recall_160 rfl (lv_at hl 3 rfl) ?_
              refine lv_iconst (v := (1 : Int32)) hx hb dX8_recall_161 (by decide) ?_
              refine cl_i (va_runV (As := [.int (1 : Int32)]) (rest := []) ⟨hx, hb, hml, hown, hts⟩ (qX8_done l dC dI cy y bd H.size (s_placeF o (vf_upd (m_placeF o) a4.toNatClampNeg (FP.frem y12 (m_rimF o a4.toNatClampNeg)))) (1 : Int32)) (cwV 1 hts gX8_recall_X8_done rfl rfl rfl (by decide +kernel) ⟨Nat.le_of_ble_eq_true rfl, Nat.le_of_ble_eq_true rfl⟩) (pV hK hP hD hk (q0 := 0) rfl rfl) rfl rfl hl.1 rfl (lv_room (Nat.le_of_ble_eq_true rfl)) dX8_recall_162 ⟨Nat.le_of_ble_eq_true rfl, Nat.le_of_ble_eq_true rfl⟩) hD hS hA (fun r u H locs hw hP hD hS => ?_)
              have hr1 : r = (jX8_done (s_placeF o (vf_upd (m_placeF o) a4.toNatClampNeg (FP.frem y12 (m_rimF o a4.toNatClampNeg)))) (1 : Int32)).1 := congrArg Prod.fst hw
              have hu1 : u = (jX8_done (s_placeF o (vf_upd (m_placeF o) a4.toNatClampNeg (FP.frem y12 (m_rimF o a4.toNatClampNeg)))) (1 : Int32)).2 := congrArg Prod.snd hw
              rw [hu1] at hP hD
              rw [hr1]
              exact W.iret hx hb hr (fun t ht hW => ⟨⟨_, _, rfl, hJ.trans hE.symm, by rw [ht]; exact hP, va_K.moved hW.alike hK, hD⟩, hS.F ht⟩) hS.2.2 dX8_recall_165
            · skip
              rw [if_neg c18] at hJ
              rw [if_neg c18] at hV
              refine lv_aload_n hx hb dX8_recall_123 rfl (lv_at hl 3 rfl) ?_
              refine va_get (D := (dC, dI)) (ci := 6) (v := .ref (bd 4)) (C := RX8) (T := TX8) (N := 20) (fs := wm_f bd o) hx hb hts hi_wsX80 hown hK hP 0 rfl rfl 5 (by decide) (hts (.fieldLink RX8 24 "OrreryDialsModel" "placeD" "[D") (by decide +kernel)) (fun _ h9 => h9) rfl dX8_recall_124 ?_
              refine lv_iload hx hb dX8_recall_127 (lv_at hl 7 rfl) ?_
              refine lv_dload hx hb dX8_recall_129 (lv_at hl 1 rfl) ?_
              refine lv_aload_n hx hb dX8_recall_131 rfl (lv_at hl 3 rfl) ?_
              refine va_get (D := (dC, dI)) (ci := 6) (v := .ref (bd 3)) (C := RX8) (T := TX8) (N := 20) (fs := wm_f bd o) hx hb hts hi_wsX80 hown hK hP 0 rfl rfl 4 (by decide) (hts (.fieldLink RX8 20 "OrreryDialsModel" "rimD" "[D") (by decide +kernel)) (fun _ h9 => h9) rfl dX8_recall_132 ?_
              refine lv_iload hx hb dX8_recall_135 (lv_at hl 7 rfl) ?_
              obtain ⟨hk22, hV⟩ := hV
              refine va_dald hx hb hK hP 4 4 rfl rfl hk22 dX8_recall_137 ?_
              obtain ⟨hk23, hV⟩ := hV
              refine lv_drem hx hb dX8_recall_138 hk23 ?_
              obtain ⟨hk24, hV⟩ := hV
              refine va_dast hx hb hK hP hD hS 5 4 rfl rfl hk24 dX8_recall_139 (fun H locs hP hD hS => ?_)
              rw [wm_a_placeD] at hP hD
              refine lv_goto (tgt := 160) hx hb dX8_recall_140 (by decide) ?_
              refine lv_aload_n hx hb dX8_recall_160 rfl (lv_at hl 3 rfl) ?_
              refine lv_iconst (v := (1 : Int32)) hx hb dX8_recall_161 (by decide) ?_
              refine cl_i (va_runV (As := [.int (1 : Int32)]) (rest := []) ⟨hx, hb, hml, hown, hts⟩ (qX8_done l dC dI cy y bd H.size (s_placeD o (vf_upd (m_placeD o) a4.toNatClampNeg (FP.drem y6 (m_rimD o a4.toNatClampNeg)))) (1 : Int32)) (cwV 1 hts gX8_recall_X8_done rfl rfl rfl (by decide +kernel) ⟨Nat.le_of_ble_eq_true rfl, Nat.le_of_ble_eq_true rfl⟩) (pV hK hP hD hk (q0 := 0) rfl rfl) rfl rfl hl.1 rfl (lv_room (Nat.le_of_ble_eq_true rfl)) dX8_recall_162 ⟨Nat.le_of_ble_eq_true rfl, Nat.le_of_ble_eq_true rfl⟩) hD hS hA (fun r u H locs hw hP hD hS => ?_)
              have hr1 : r = (jX8_done (s_placeD o (vf_upd (m_placeD o) a4.toNatClampNeg (FP.drem y6 (m_rimD o a4.toNatClampNeg)))) (1 : Int32)).1 := congrArg Prod.fst hw
              have hu1 : u = (jX8_done (s_placeD o (vf_upd (m_placeD o) a4.toNatClampNeg (FP.drem y6 (m_rimD o a4.toNatClampNeg)))) (1 : Int32)).2 := congrArg Prod.snd hw
              rw [hu1] at hP hD
              rw [hr1]
              exact W.iret hx hb hr (fun t ht hW => ⟨⟨_, _, rfl, hJ.trans hE.symm, by rw [ht]; exact hP, va_K.moved hW.alike hK, hD⟩, hS.F ht⟩) hS.2.2 dX8_recall_165
          · skip
            rw [if_pos c16] at hJ
            rw [if_pos c16] at hV
            refine lv_fload hx hb dX8_recall_98 (lv_at hl 0 rfl) ?_
            refine vp_callSi (W.runS (As := [.float y12]) (rest := []) ⟨hx, hb, hml, hown, hts⟩ (qX8_isEndlessFloat l y12) (va_cwS 1 hts gX8_recall_X8_isEndlessFloat rfl rfl rfl (by decide +kernel) ⟨Nat.le_of_ble_eq_true rfl, Nat.le_of_ble_eq_true rfl⟩) ⟨fun _ _ _ _ q => q, fun U hU hW => rfl⟩ rfl rfl hl.1 rfl (lv_room (Nat.le_of_ble_eq_true rfl)) dX8_recall_100 ⟨Nat.le_of_ble_eq_true rfl, Nat.le_of_ble_eq_true rfl⟩) (fun r hq9 => ?_)
            rw [hq9]
            refine lv_if_eq (tgt := 113) hx hb dX8_recall_103 (by decide) (fun c25 => ?_) (fun c25 => ?_)
            · skip
              rw [if_pos c25] at hJ
              rw [if_pos c25] at hV
              refine lv_aload_n hx hb dX8_recall_113 rfl (lv_at hl 3 rfl) ?_
              refine va_get (D := (dC, dI)) (ci := 6) (v := .ref (bd 0)) (C := RX8) (T := TX8) (N := 20) (fs := wm_f bd o) hx hb hts hi_wsX80 hown hK hP 0 rfl rfl 1 (by decide) (hts (.fieldLink RX8 7 "OrreryDialsModel" "isFine" "[Z") (by decide +kernel)) (fun _ h9 => h9) rfl dX8_recall_114 ?_
              refine lv_iload hx hb dX8_recall_117 (lv_at hl 7 rfl) ?_
              obtain ⟨hk26, hV⟩ := hV
              refine va_zald hx hb hK hP 1 2 rfl rfl hk26 dX8_recall_119 ?_
              refine lv_if_eq (tgt := 143) hx hb dX8_recall_120 (by decide) (fun c27 => ?_) (fun c27 => ?_)
              · skip
                rw [if_pos c27] at hJ
                rw [if_pos c27] at hV
                refine lv_aload_n hx hb dX8_recall_143 rfl (lv_at hl 3 rfl) ?_
                refine va_get (D := (dC, dI)) (ci := 6) (v := .ref (bd 2)) (C := RX8) (T := TX8) (N := 20) (fs := wm_f bd o) hx hb hts hi_wsX80 hown hK hP 0 rfl rfl 3 (by decide) (hts (.fieldLink RX8 17 "OrreryDialsModel" "placeF" "[F") (by decide +kernel)) (fun _ h9 => h9) rfl dX8_recall_144 ?_
                refine lv_iload hx hb dX8_recall_147 (lv_at hl 7 rfl) ?_
                refine lv_fload hx hb dX8_recall_149 (lv_at hl 0 rfl) ?_
                refine lv_aload_n hx hb dX8_recall_151 rfl (lv_at hl 3 rfl) ?_
                refine va_get (D := (dC, dI)) (ci := 6) (v := .ref (bd 1)) (C := RX8) (T := TX8) (N := 20) (fs := wm_f bd o) hx hb hts hi_wsX80 hown hK hP 0 rfl rfl 2 (by decide) (hts (.fieldLink RX8 13 "OrreryDialsModel" "rimF" "[F") (by decide +kernel)) (fun _ h9 => h9) rfl dX8_recall_152 ?_
                refine lv_iload hx hb dX8_recall_155 (lv_at hl 7 rfl) ?_
                obtain ⟨hk28, hV⟩ := hV
                refine va_fald hx hb hK hP 2 3 rfl rfl hk28 dX8_recall_157 ?_
                obtain ⟨hk29, hV⟩ := hV
                refine lv_frem hx hb dX8_recall_158 hk29 ?_
                obtain ⟨hk30, hV⟩ := hV
                refine va_fast hx hb hK hP hD hS 3 3 rfl rfl hk30 dX8_recall_159 (fun H locs hP hD hS => ?_)
                rw [wm_a_placeF] at hP hD
                refine lv_aload_n hx hb dX8_recall_160 rfl (lv_at hl 3 rfl) ?_
                refine lv_iconst (v := (1 : Int32)) hx hb dX8_recall_161 (by decide) ?_
                refine cl_i (va_runV (As := [.int (1 : Int32)]) (rest := []) ⟨hx, hb, hml, hown, hts⟩ (qX8_done l dC dI cy y bd H.size (s_placeF o (vf_upd (m_placeF o) a4.toNatClampNeg (FP.frem y12 (m_rimF o a4.toNatClampNeg)))) (1 : Int32)) (cwV 1 hts gX8_recall_X8_done rfl rfl rfl (by decide +kernel) ⟨Nat.le_of_ble_eq_true rfl, Nat.le_of_ble_eq_true rfl⟩) (pV hK hP hD hk (q0 := 0) rfl rfl) rfl rfl hl.1 rfl (lv_room (Nat.le_of_ble_eq_true rfl)) dX8_recall_162 ⟨Nat.le_of_ble_eq_true rfl, Nat.le_of_ble_eq_true rfl⟩) hD hS hA (fun r u H locs hw hP hD hS => ?_)
                have hr1 : r = (jX8_done (s_placeF o (vf_upd (m_placeF o) a4.toNatClampNeg (FP.frem y12 (m_rimF o a4.toNatClampNeg)))) (1 : Int32)).1 := congrArg Prod.fst hw
                have hu1 : u = (jX8_done (s_placeF o (vf_upd (m_placeF o) a4.toNatClampNeg (FP.frem y12 (m_rimF o a4.toNatClampNeg)))) (1 : Int32)).2 := congrArg Prod.snd hw
                rw [hu1] at hP hD
                rw [hr1]
                exact W.iret hx hb hr (fun t ht hW => ⟨⟨_, _, rfl, hJ.trans hE.symm, by rw [ht]; exact hP, va_K.moved hW.alike hK, hD⟩, hS.F ht⟩) hS.2.2 dX8_recall_165
              · skip
                rw [if_neg c27] at hJ
                rw [if_neg c27] at hV
                refine lv_aload_n hx hb dX8_recall_123 rfl (lv_at hl 3 rfl) ?_
                refine va_get (D := (dC, dI)) (ci := 6) (v := .ref (bd 4)) (C := RX8) (T := TX8) (N := 20) (fs := wm_f bd o) hx hb hts hi_wsX80 hown hK hP 0 rfl rfl 5 (by decide) (hts (.fieldLink RX8 24 "OrreryDialsModel" "placeD" "[D") (by decide +kernel)) (fun _ h9 => h9) rfl dX8_recall_124 ?_
                refine lv_iload hx hb dX8_recall_127 (lv_at hl 7 rfl) ?_
                refine lv_dload hx hb dX8_recall_129 (lv_at hl 1 rfl) ?_
                refine lv_aload_n hx hb dX8_recall_131 rfl (lv_at hl 3 rfl) ?_
                refine va_get (D := (dC, dI)) (ci := 6) (v := .ref (bd 3)) (C := RX8) (T := TX8) (N := 20) (fs := wm_f bd o) hx hb hts hi_wsX80 hown hK hP 0 rfl rfl 4 (by decide) (hts (.fieldLink RX8 20 "OrreryDialsModel" "rimD" "[D") (by decide +kernel)) (fun _ h9 => h9) rfl dX8_recall_132 ?_
                refine lv_iload hx hb dX8_recall_135 (lv_at hl 7 rfl) ?_
                obtain ⟨hk31, hV⟩ := hV
                refine va_dald hx hb hK hP 4 4 rfl rfl hk31 dX8_recall_137 ?_
                obtain ⟨hk32, hV⟩ := hV
                refine lv_drem hx hb dX8_recall_138 hk32 ?_
                obtain ⟨hk33, hV⟩ := hV
                refine va_dast hx hb hK hP hD hS 5 4 rfl rfl hk33 dX8_recall_139 (fun H locs hP hD hS => ?_)
                rw [wm_a_placeD] at hP hD
                refine lv_goto (tgt := 160) hx hb dX8_recall_140 (by decide) ?_
                refine lv_aload_n hx hb dX8_recall_160 rfl (lv_at hl 3 rfl) ?_
                refine lv_iconst (v := (1 : Int32)) hx hb dX8_recall_161 (by decide) ?_
                refine cl_i (va_runV (As := [.int (1 : Int32)]) (rest := []) ⟨hx, hb, hml, hown, hts⟩ (qX8_done l dC dI cy y bd H.size (s_placeD o (vf_upd (m_placeD o) a4.toNatClampNeg (FP.drem y6 (m_rimD o a4.toNatClampNeg)))) (1 : Int32)) (cwV 1 hts gX8_recall_X8_done rfl rfl rfl (by decide +kernel) ⟨Nat.le_of_ble_eq_true rfl, Nat.le_of_ble_eq_true rfl⟩) (pV hK hP hD hk (q0 := 0) rfl rfl) rfl rfl hl.1 rfl (lv_room (Nat.le_of_ble_eq_true rfl)) dX8_recall_162 ⟨Nat.le_of_ble_eq_true rfl, Nat.le_of_ble_eq_true rfl⟩) hD hS hA (fun r u H locs hw hP hD hS => ?_)
                have hr1 : r = (jX8_done (s_placeD o (vf_upd (m_placeD o) a4.toNatClampNeg (FP.drem y6 (m_rimD o a4.toNatClampNeg)))) (1 : Int32)).1 := congrArg Prod.fst hw
                have hu1 : u = (jX8_done (s_placeD o (vf_upd (m_placeD o) a4.toNatClampNeg (FP.drem y6 (m_rimD o a4.toNatClampNeg)))) (1 : Int32)).2 := congrArg Prod.snd hw
                rw [hu1] at hP hD
                rw [hr1]
                exact W.iret hx hb hr (fun t ht hW => ⟨⟨_, _, rfl, hJ.trans hE.symm, by rw [ht]; exact hP, va_K.moved hW.alike hK, hD⟩, hS.F ht⟩) hS.2.2 dX8_recall_165
            · skip
              rw [if_neg c25] at hJ
              rw [if_neg c25] at hV
              refine lv_aload_n hx hb dX8_recall_106 rfl (lv_at hl 3 rfl) ?_
              refine lv_bipush (v := (-15 : Int32)) hx hb dX8_recall_107 (by decide) ?_
              obtain ⟨hk34, hV⟩ := hV
              refine cl_i (va_runV (As := [.int (-15 : Int32)]) (rest := []) ⟨hx, hb, hml, hown, hts⟩ (qX8_fails l dC dI cy y bd H.size o (-15 : Int32) hk34) (cwV 1 hts gX8_recall_X8_fails rfl rfl rfl (by decide +kernel) ⟨Nat.le_of_ble_eq_true rfl, Nat.le_of_ble_eq_true rfl⟩) (pV hK hP hD hk (q0 := 0) rfl rfl) rfl rfl hl.1 rfl (lv_room (Nat.le_of_ble_eq_true rfl)) dX8_recall_109 ⟨Nat.le_of_ble_eq_true rfl, Nat.le_of_ble_eq_true rfl⟩) hD hS hA (fun r u H locs hw hP hD hS => ?_)
              have hr1 : r = (jX8_fails o (-15 : Int32)).1 := congrArg Prod.fst hw
              have hu1 : u = (jX8_fails o (-15 : Int32)).2 := congrArg Prod.snd hw
              rw [hu1] at hP hD
              rw [hr1]
              exact W.iret hx hb hr (fun t ht hW => ⟨⟨_, _, rfl, hJ.trans hE.symm, by rw [ht]; exact hP, va_K.moved hW.alike hK, hD⟩, hS.F ht⟩) hS.2.2 dX8_recall_112
      · skip
        rw [if_neg c5] at hJ
        rw [if_neg c5] at hV
        refine lv_aload_n hx hb dX8_recall_36 rfl (lv_at hl 1 rfl) ?_
        refine lv_iload hx hb dX8_recall_37 (lv_at hl 0 rfl) ?_
        obtain ⟨hk35, hV⟩ := hV
        refine cl_i (va_runV (As := [.int y4]) (rest := []) ⟨hx, hb, hml, hown, hts⟩ (qX8_fails l dC dI cy y bd H.size o y4 hk35) (cwV 1 hts gX8_recall_X8_fails rfl rfl rfl (by decide +kernel) ⟨Nat.le_of_ble_eq_true rfl, Nat.le_of_ble_eq_true rfl⟩) (pV hK hP hD hk (q0 := 0) rfl rfl) rfl rfl hl.1 rfl (lv_room (Nat.le_of_ble_eq_true rfl)) dX8_recall_39 ⟨Nat.le_of_ble_eq_true rfl, Nat.le_of_ble_eq_true rfl⟩) hD hS hA (fun r u H locs hw hP hD hS => ?_)
        have hr1 : r = (jX8_fails o y4).1 := congrArg Prod.fst hw
        have hu1 : u = (jX8_fails o y4).2 := congrArg Prod.snd hw
        rw [hu1] at hP hD
        rw [hr1]
        exact W.iret hx hb hr (fun t ht hW => ⟨⟨_, _, rfl, hJ.trans hE.symm, by rw [ht]; exact hP, va_K.moved hW.alike hK, hD⟩, hS.F ht⟩) hS.2.2 dX8_recall_42
    · skip
      rw [if_pos c2] at hJ
      rw [if_pos c2] at hV
      refine lv_bipush (v := (-101 : Int32)) hx hb dX8_recall_16 (by decide) ?_
      exact W.iret hx hb hr (fun t ht hW => ⟨⟨_, _, rfl, hJ.trans hE.symm, by rw [ht]; exact hP, va_K.moved hW.alike hK, hD⟩, hS.F ht⟩) hS.2.2 dX8_recall_18
def jX8_castReal (a0 : UInt64) (a2 : Int32) : Int64 := (if a2 = (0 : Int32) then ((FP.d2i a0).toInt64) else (if a2 = (1 : Int32) then (FP.d2l a0) else (if a2 = (2 : Int32) then ((jJxf58ca_floatToIntBits_5c35a (FP.d2f a0)).toInt64) else (jJxe99ae_doubleToLongBits_ccdee a0))))
def sX8_castReal (a0 : UInt64) (a2 : Int32) : Prop := True ∧ (if a2 = (0 : Int32) then True else (if a2 = (1 : Int32) then True else (if a2 = (2 : Int32) then (vf_n32 (FP.d2f a0) ∧ True) else True)))
set_option linter.constructorNameAsVariable false in
set_option maxHeartbeats 8000000 in
set_option maxRecDepth 100000 in
theorem qX8_castReal (l : Launch) (a0 : UInt64) (a2 : Int32) (hV : sX8_castReal a0 a2) : Met l yX8_castReal wsX8_castReal ({ frames := 2, cells := 0, slots := 0, locals := 44 }) (fun v _ => v = ([.double a0, .int a2] : List Value).toArray) (vp_Sl (fun r => r = jX8_castReal a0 a2)) 0 0 (fun _ => False) := by
  refine Met.ofW (cc := cX8_castReal) (maxL := 3) (ret := some .long) (by decide) rfl ?_
  intro p e s m args below meth c s₁ B hml hv
  subst hv
  have hx := B.exec
  have hb := B.bytes
  have hr := B.returns
  have hts := atoms_spec (ws := wsX8_castReal) B.pre
  have hown : s.vm.findClass RX8 = some m.cls := findClass_of_methodNamed B.named
  have hlocks := B.notSynchronized
  obtain ⟨JR, hE⟩ : ∃ q, jX8_castReal a0 a2 = q := ⟨_, rfl⟩
  have hJ := hE
  rw [jX8_castReal] at hJ
  rw [sX8_castReal] at hV
  have hV := hV.2
  have hl := lv_entry ([.double a0, .int a2]) (n := 3) (Nat.le_of_ble_eq_true rfl)
  rw [lg_entry_eq]
  generalize (lg_sl ([.double a0, .int a2]) ++ List.replicate (3 - (lg_sl ([.double a0, .int a2])).length) Slot.unset).toArray = ls at hl ⊢
  have hl : lv_has ls 3 [(0, .double a0), (2, .int a2)] := hl
  refine lv_iload_n hx hb dX8_castReal_0 rfl (lv_at hl 1 rfl) ?_
  by_cases c1 : a2 = (0 : Int32)
  · rw [if_pos c1] at hJ
    rw [if_pos c1] at hV
    refine lv_tableIn (off := 27) (tgt := 28) hx hb dX8_castReal_1 (by rw [c1]; decide) (by rw [c1]; decide) (by rw [c1]; rfl) (by decide) ?_
    refine lv_dload_n hx hb dX8_castReal_28 rfl (lv_at hl 0 rfl) ?_
    refine lv_d2i hx hb dX8_castReal_29 ?_
    refine lv_i2l (v := (FP.d2i a0).toInt64) hx hb dX8_castReal_30 rfl ?_
    exact W.lret hx hb hr (fun t ht hW => ⟨_, rfl, hJ.trans hE.symm, ht⟩) (fun q h => absurd h List.not_mem_nil) dX8_castReal_31
  · rw [if_neg c1] at hJ
    rw [if_neg c1] at hV
    by_cases c2 : a2 = (1 : Int32)
    · rw [if_pos c2] at hJ
      rw [if_pos c2] at hV
      refine lv_tableIn (off := 31) (tgt := 32) hx hb dX8_castReal_1 (by rw [c2]; decide) (by rw [c2]; decide) (by rw [c2]; rfl) (by decide) ?_
      refine lv_dload_n hx hb dX8_castReal_32 rfl (lv_at hl 0 rfl) ?_
      refine lv_d2l hx hb dX8_castReal_33 ?_
      exact W.lret hx hb hr (fun t ht hW => ⟨_, rfl, hJ.trans hE.symm, ht⟩) (fun q h => absurd h List.not_mem_nil) dX8_castReal_34
    · rw [if_neg c2] at hJ
      rw [if_neg c2] at hV
      by_cases c3 : a2 = (2 : Int32)
      · rw [if_pos c3] at hJ
        rw [if_pos c3] at hV
        refine lv_tableIn (off := 34) (tgt := 35) hx hb dX8_castReal_1 (by rw [c3]; decide) (by rw [c3]; decide) (by rw [c3]; rfl) (by decide) ?_
        refine lv_dload_n hx hb dX8_castReal_35 rfl (lv_at hl 0 rfl) ?_
        obtain ⟨hk4, hV⟩ := hV
        refine lv_d2f hx hb dX8_castReal_36 hk4 ?_
        refine vp_callSi (W.runS (As := [.float (FP.d2f a0)]) (rest := []) ⟨hx, hb, hml, hown, hts⟩ (qJxf58ca_floatToIntBits_5c35a l (FP.d2f a0)) (va_cwS 1 hts gX8_castReal_Jxf58ca_floatToIntBits_5c35a rfl rfl rfl (by decide +kernel) ⟨Nat.le_of_ble_eq_true rfl, Nat.le_of_ble_eq_true rfl⟩) ⟨fun _ _ _ _ q => q, fun U hU hW => rfl⟩ rfl rfl hl.1 rfl (lv_room (Nat.le_of_ble_eq_true rfl)) dX8_castReal_37 ⟨Nat.le_of_ble_eq_true rfl, Nat.le_of_ble_eq_true rfl⟩) (fun r hq9 => ?_)
        rw [hq9]
        refine lv_i2l (v := (jJxf58ca_floatToIntBits_5c35a (FP.d2f a0)).toInt64) hx hb dX8_castReal_40 rfl ?_
        exact W.lret hx hb hr (fun t ht hW => ⟨_, rfl, hJ.trans hE.symm, ht⟩) (fun q h => absurd h List.not_mem_nil) dX8_castReal_41
      · rw [if_neg c3] at hJ
        rw [if_neg c3] at hV
        refine lv_tableOut (tgt := 42) hx hb dX8_castReal_1 (t_out3 c1 c2 c3) (by decide) ?_
        refine lv_dload_n hx hb dX8_castReal_42 rfl (lv_at hl 0 rfl) ?_
        refine vp_callSl (W.runS (As := [.double a0]) (rest := []) ⟨hx, hb, hml, hown, hts⟩ (qJxe99ae_doubleToLongBits_ccdee l a0) (va_cwS 1 hts gX8_castReal_Jxe99ae_doubleToLongBits_ccdee rfl rfl rfl (by decide +kernel) ⟨Nat.le_of_ble_eq_true rfl, Nat.le_of_ble_eq_true rfl⟩) ⟨fun _ _ _ _ q => q, fun U hU hW => rfl⟩ rfl rfl hl.1 rfl (lv_room (Nat.le_of_ble_eq_true rfl)) dX8_castReal_43 ⟨Nat.le_of_ble_eq_true rfl, Nat.le_of_ble_eq_true rfl⟩) (fun r hq9 => ?_)
        rw [hq9]
        exact W.lret hx hb hr (fun t ht hW => ⟨_, rfl, hJ.trans hE.symm, ht⟩) (fun q h => absurd h List.not_mem_nil) dX8_castReal_46
def jX8_castWhole (a0 : Int64) (a2 : Int32) : Int64 := (if a2 = (0 : Int32) then ((a0.toInt32).toInt64) else (if a2 = (1 : Int32) then a0 else (if a2 = (2 : Int32) then ((jJxf58ca_floatToIntBits_5c35a (FP.l2f a0)).toInt64) else (jJxe99ae_doubleToLongBits_ccdee (FP.l2d a0)))))
set_option linter.constructorNameAsVariable false in
set_option maxHeartbeats 8000000 in
set_option maxRecDepth 100000 in
theorem qX8_castWhole (l : Launch) (a0 : Int64) (a2 : Int32) : Met l yX8_castWhole wsX8_castWhole ({ frames := 2, cells := 0, slots := 0, locals := 44 }) (fun v _ => v = ([.long a0, .int a2] : List Value).toArray) (vp_Sl (fun r => r = jX8_castWhole a0 a2)) 0 0 (fun _ => False) := by
  refine Met.ofW (cc := cX8_castWhole) (maxL := 3) (ret := some .long) (by decide) rfl ?_
  intro p e s m args below meth c s₁ B hml hv
  subst hv
  have hx := B.exec
  have hb := B.bytes
  have hr := B.returns
  have hts := atoms_spec (ws := wsX8_castWhole) B.pre
  have hown : s.vm.findClass RX8 = some m.cls := findClass_of_methodNamed B.named
  have hlocks := B.notSynchronized
  obtain ⟨JR, hE⟩ : ∃ q, jX8_castWhole a0 a2 = q := ⟨_, rfl⟩
  have hJ := hE
  rw [jX8_castWhole] at hJ
  have hl := lv_entry ([.long a0, .int a2]) (n := 3) (Nat.le_of_ble_eq_true rfl)
  rw [lg_entry_eq]
  generalize (lg_sl ([.long a0, .int a2]) ++ List.replicate (3 - (lg_sl ([.long a0, .int a2])).length) Slot.unset).toArray = ls at hl ⊢
  have hl : lv_has ls 3 [(0, .long a0), (2, .int a2)] := hl
  refine lv_iload_n hx hb dX8_castWhole_0 rfl (lv_at hl 1 rfl) ?_
  by_cases c1 : a2 = (0 : Int32)
  · rw [if_pos c1] at hJ
    refine lv_tableIn (off := 27) (tgt := 28) hx hb dX8_castWhole_1 (by rw [c1]; decide) (by rw [c1]; decide) (by rw [c1]; rfl) (by decide) ?_
    refine lv_lload_n hx hb dX8_castWhole_28 rfl (lv_at hl 0 rfl) ?_
    refine lv_l2i (v := a0.toInt32) hx hb dX8_castWhole_29 rfl ?_
    refine lv_i2l (v := (a0.toInt32).toInt64) hx hb dX8_castWhole_30 rfl ?_
    exact W.lret hx hb hr (fun t ht hW => ⟨_, rfl, hJ.trans hE.symm, ht⟩) (fun q h => absurd h List.not_mem_nil) dX8_castWhole_31
  · rw [if_neg c1] at hJ
    by_cases c2 : a2 = (1 : Int32)
    · rw [if_pos c2] at hJ
      refine lv_tableIn (off := 31) (tgt := 32) hx hb dX8_castWhole_1 (by rw [c2]; decide) (by rw [c2]; decide) (by rw [c2]; rfl) (by decide) ?_
      refine lv_lload_n hx hb dX8_castWhole_32 rfl (lv_at hl 0 rfl) ?_
      exact W.lret hx hb hr (fun t ht hW => ⟨_, rfl, hJ.trans hE.symm, ht⟩) (fun q h => absurd h List.not_mem_nil) dX8_castWhole_33
    · rw [if_neg c2] at hJ
      by_cases c3 : a2 = (2 : Int32)
      · rw [if_pos c3] at hJ
        refine lv_tableIn (off := 33) (tgt := 34) hx hb dX8_castWhole_1 (by rw [c3]; decide) (by rw [c3]; decide) (by rw [c3]; rfl) (by decide) ?_
        refine lv_lload_n hx hb dX8_castWhole_34 rfl (lv_at hl 0 rfl) ?_
        refine lv_l2f hx hb dX8_castWhole_35 ?_
        refine vp_callSi (W.runS (As := [.float (FP.l2f a0)]) (rest := []) ⟨hx, hb, hml, hown, hts⟩ (qJxf58ca_floatToIntBits_5c35a l (FP.l2f a0)) (va_cwS 1 hts gX8_castWhole_Jxf58ca_floatToIntBits_5c35a rfl rfl rfl (by decide +kernel) ⟨Nat.le_of_ble_eq_true rfl, Nat.le_of_ble_eq_true rfl⟩) ⟨fun _ _ _ _ q => q, fun U hU hW => rfl⟩ rfl rfl hl.1 rfl (lv_room (Nat.le_of_ble_eq_true rfl)) dX8_castWhole_36 ⟨Nat.le_of_ble_eq_true rfl, Nat.le_of_ble_eq_true rfl⟩) (fun r hq9 => ?_)
        rw [hq9]
        refine lv_i2l (v := (jJxf58ca_floatToIntBits_5c35a (FP.l2f a0)).toInt64) hx hb dX8_castWhole_39 rfl ?_
        exact W.lret hx hb hr (fun t ht hW => ⟨_, rfl, hJ.trans hE.symm, ht⟩) (fun q h => absurd h List.not_mem_nil) dX8_castWhole_40
      · rw [if_neg c3] at hJ
        refine lv_tableOut (tgt := 41) hx hb dX8_castWhole_1 (t_out3 c1 c2 c3) (by decide) ?_
        refine lv_lload_n hx hb dX8_castWhole_41 rfl (lv_at hl 0 rfl) ?_
        refine lv_l2d hx hb dX8_castWhole_42 ?_
        refine vp_callSl (W.runS (As := [.double (FP.l2d a0)]) (rest := []) ⟨hx, hb, hml, hown, hts⟩ (qJxe99ae_doubleToLongBits_ccdee l (FP.l2d a0)) (va_cwS 1 hts gX8_castWhole_Jxe99ae_doubleToLongBits_ccdee rfl rfl rfl (by decide +kernel) ⟨Nat.le_of_ble_eq_true rfl, Nat.le_of_ble_eq_true rfl⟩) ⟨fun _ _ _ _ q => q, fun U hU hW => rfl⟩ rfl rfl hl.1 rfl (lv_room (Nat.le_of_ble_eq_true rfl)) dX8_castWhole_43 ⟨Nat.le_of_ble_eq_true rfl, Nat.le_of_ble_eq_true rfl⟩) (fun r hq9 => ?_)
        rw [hq9]
        exact W.lret hx hb hr (fun t ht hW => ⟨_, rfl, hJ.trans hE.symm, ht⟩) (fun q h => absurd h List.not_mem_nil) dX8_castWhole_46
def jX8_cast_y4 (o : Ms) (a1 : Int32) (a2 : Int32) (a3 : Int64) (y4 : Int64) : Int32 × Ms := ((1 : Int32), (s_seen o y4))
def sX8_cast_y4 (o : Ms) (a1 : Int32) (a2 : Int32) (a3 : Int64) (y4 : Int64) : Prop := True ∧ True
def jX8_cast (o : Ms) (a1 : Int32) (a2 : Int32) (a3 : Int64) : Int32 × Ms := (if (jX8_in (a1.toInt64) (0 : Int64) (3 : Int64)) = 0 then ((-102 : Int32), o) else (if (jX8_in (a2.toInt64) (0 : Int64) (3 : Int64)) = 0 then ((-102 : Int32), o) else (if (jX8_isNone a1 a3) = 0 then (jX8_cast_y4 o a1 a2 a3 (if (2 : Int32) ≤ a1 then (if a1 = (2 : Int32) then (jX8_castReal (FP.f2d (jX8_floatOf a3)) a2) else (jX8_castReal (jX8_doubleOf a3) a2)) else (if a1 = 0 then (jX8_castWhole ((a3.toInt32).toInt64) a2) else (jX8_castWhole a3 a2)))) else ((-102 : Int32), o))))
def sX8_cast (o : Ms) (a1 : Int32) (a2 : Int32) (a3 : Int64) : Prop := True ∧ (if (jX8_in (a1.toInt64) (0 : Int64) (3 : Int64)) = 0 then True else (if (jX8_in (a2.toInt64) (0 : Int64) (3 : Int64)) = 0 then True else (if (jX8_isNone a1 a3) = 0 then ((if (2 : Int32) ≤ a1 then (if a1 = (2 : Int32) then (sX8_floatOf a3 ∧ (vf_n64 (FP.f2d (jX8_floatOf a3)) ∧ (sX8_castReal (FP.f2d (jX8_floatOf a3)) a2 ∧ True))) else (sX8_doubleOf a3 ∧ (sX8_castReal (jX8_doubleOf a3) a2 ∧ True))) else (if a1 = 0 then True else True)) ∧ (sX8_cast_y4 o a1 a2 a3 (if (2 : Int32) ≤ a1 then (if a1 = (2 : Int32) then (jX8_castReal (FP.f2d (jX8_floatOf a3)) a2) else (jX8_castReal (jX8_doubleOf a3) a2)) else (if a1 = 0 then (jX8_castWhole ((a3.toInt32).toInt64) a2) else (jX8_castWhole a3 a2))))) else True)))
set_option linter.constructorNameAsVariable false in
set_option maxHeartbeats 8000000 in
set_option maxRecDepth 100000 in
theorem qX8_cast (l : Launch) (dC : Nat → ClassId) (dI : Nat → Nat → Nat) (cy : Nat → ClassId) (y : Nat) (bd : Nat → Nat) (sz : Nat) (o : Ms) (a1 : Int32) (a2 : Int32) (a3 : Int64) (hV : sX8_cast o a1 a2 a3) : Met l yX8_cast wsX8_cast ({ frames := 3, cells := 0, slots := 0, locals := 66 }) (va_Pc [.ref y, .int a1, .int a2, .long a3] (wI (dC, dI) (tyA cy) (WM cy y bd o) sz)) (va_Qi (fun r u => (r, u) = jX8_cast o a1 a2 a3) (fun u t => wO (dC, dI) (tyA cy) (va_A (WM cy y bd o) sz) (WM cy y bd u) t) (va_A (WM cy y bd o) sz)) 0 0 (va_A (WM cy y bd o) sz) := by
  refine Met.ofW (cc := cX8_cast) (maxL := 5) (ret := some .int) (by decide) rfl ?_
  intro p e s m args below meth c s₁ B hml hv
  obtain ⟨rfl, hsz, hP, hK, hD0, hk⟩ := hv
  have hx := B.exec
  have hb := B.bytes
  have hr := B.returns
  have hts := atoms_spec (ws := wsX8_cast) B.pre
  have hown : s.vm.findClass RX8 = some m.cls := findClass_of_methodNamed B.named
  have hlocks := B.notSynchronized
  subst hsz
  have hD := hD0.self (sz := s.heap.size)
  generalize hAe : va_A (WM cy y bd o) s.heap.size = A at hD ⊢
  have hA : ∀ q : Nat, s.heap.size ≤ q → A q := fun q h => by rw [← hAe]; exact Or.inr h
  obtain ⟨H, hHe⟩ : ∃ H, s.heap = H := ⟨_, rfl⟩
  have hP : va_P (dC, dI) vwCl (WM cy y bd o) H := by rw [← hHe]; exact hP
  have hS : va_S A s.heap H [] := by rw [← hHe]; exact va_S.rf
  rw [w_heap hHe]
  have hi_wsX80 : ∀ w ∈ wsX80, w ∈ wsX8_cast := fun _ h => List.mem_cons_of_mem _ (List.mem_append_right _ h)
  obtain ⟨JR, hE⟩ : ∃ q, jX8_cast o a1 a2 a3 = q := ⟨_, rfl⟩
  have hJ := hE
  rw [jX8_cast] at hJ
  rw [sX8_cast] at hV
  have hV := hV.2
  have hl := lv_entry ([.ref y, .int a1, .int a2, .long a3]) (n := 5) (Nat.le_of_ble_eq_true rfl)
  rw [lg_entry_eq]
  generalize (lg_sl ([.ref y, .int a1, .int a2, .long a3]) ++ List.replicate (5 - (lg_sl ([.ref y, .int a1, .int a2, .long a3])).length) Slot.unset).toArray = ls at hl ⊢
  have hl : lv_has ls 5 [(0, .ref y), (1, .int a1), (2, .int a2), (3, .long a3)] := hl
  refine lv_iload_n hx hb dX8_cast_0 rfl (lv_at hl 1 rfl) ?_
  refine lv_i2l (v := a1.toInt64) hx hb dX8_cast_1 rfl ?_
  refine lv_lconst (v := (0 : Int64)) hx hb dX8_cast_2 (by decide) ?_
  refine lv_ldc2 (v := (3 : Int64)) hx hb hown (hts (.constantLong RX8 184 (3)) (by decide +kernel)) dX8_cast_3 ?_
  refine vp_callSi (W.runS (As := [.long (a1.toInt64), .long (0 : Int64), .long (3 : Int64)]) (rest := []) ⟨hx, hb, hml, hown, hts⟩ (qX8_in l (a1.toInt64) (0 : Int64) (3 : Int64)) (va_cwS 3 hts gX8_cast_X8_in rfl rfl rfl (by decide +kernel) ⟨Nat.le_of_ble_eq_true rfl, Nat.le_of_ble_eq_true rfl⟩) ⟨fun _ _ _ _ q => q, fun U hU hW => rfl⟩ rfl rfl hl.1 rfl (lv_room (Nat.le_of_ble_eq_true rfl)) dX8_cast_6 ⟨Nat.le_of_ble_eq_true rfl, Nat.le_of_ble_eq_true rfl⟩) (fun r hq9 => ?_)
  rw [hq9]
  refine lv_if_eq (tgt := 32) hx hb dX8_cast_9 (by decide) (fun c1 => ?_) (fun c1 => ?_)
  · skip
    rw [if_pos c1] at hJ
    rw [if_pos c1] at hV
    refine lv_bipush (v := (-102 : Int32)) hx hb dX8_cast_32 (by decide) ?_
    exact W.iret hx hb hr (fun t ht hW => ⟨⟨_, _, rfl, hJ.trans hE.symm, by rw [ht]; exact hP, va_K.moved hW.alike hK, hD⟩, hS.F ht⟩) hS.2.2 dX8_cast_34
  · skip
    rw [if_neg c1] at hJ
    rw [if_neg c1] at hV
    refine lv_iload_n hx hb dX8_cast_12 rfl (lv_at hl 2 rfl) ?_
    refine lv_i2l (v := a2.toInt64) hx hb dX8_cast_13 rfl ?_
    refine lv_lconst (v := (0 : Int64)) hx hb dX8_cast_14 (by decide) ?_
    refine lv_ldc2 (v := (3 : Int64)) hx hb hown (hts (.constantLong RX8 184 (3)) (by decide +kernel)) dX8_cast_15 ?_
    refine vp_callSi (W.runS (As := [.long (a2.toInt64), .long (0 : Int64), .long (3 : Int64)]) (rest := []) ⟨hx, hb, hml, hown, hts⟩ (qX8_in l (a2.toInt64) (0 : Int64) (3 : Int64)) (va_cwS 3 hts gX8_cast_X8_in rfl rfl rfl (by decide +kernel) ⟨Nat.le_of_ble_eq_true rfl, Nat.le_of_ble_eq_true rfl⟩) ⟨fun _ _ _ _ q => q, fun U hU hW => rfl⟩ rfl rfl hl.1 rfl (lv_room (Nat.le_of_ble_eq_true rfl)) dX8_cast_18 ⟨Nat.le_of_ble_eq_true rfl, Nat.le_of_ble_eq_true rfl⟩) (fun r hq9 => ?_)
    rw [hq9]
    refine lv_if_eq (tgt := 32) hx hb dX8_cast_21 (by decide) (fun c2 => ?_) (fun c2 => ?_)
    · skip
      rw [if_pos c2] at hJ
      rw [if_pos c2] at hV
      refine lv_bipush (v := (-102 : Int32)) hx hb dX8_cast_32 (by decide) ?_
      exact W.iret hx hb hr (fun t ht hW => ⟨⟨_, _, rfl, hJ.trans hE.symm, by rw [ht]; exact hP, va_K.moved hW.alike hK, hD⟩, hS.F ht⟩) hS.2.2 dX8_cast_34
    · skip
      rw [if_neg c2] at hJ
      rw [if_neg c2] at hV
      refine lv_iload_n hx hb dX8_cast_24 rfl (lv_at hl 1 rfl) ?_
      refine lv_lload_n hx hb dX8_cast_25 rfl (lv_at hl 3 rfl) ?_
      refine vp_callSi (W.runS (As := [.int a1, .long a3]) (rest := []) ⟨hx, hb, hml, hown, hts⟩ (qX8_isNone l a1 a3) (va_cwS 2 hts gX8_cast_X8_isNone rfl rfl rfl (by decide +kernel) ⟨Nat.le_of_ble_eq_true rfl, Nat.le_of_ble_eq_true rfl⟩) ⟨fun _ _ _ _ q => q, fun U hU hW => rfl⟩ rfl rfl hl.1 rfl (lv_room (Nat.le_of_ble_eq_true rfl)) dX8_cast_26 ⟨Nat.le_of_ble_eq_true rfl, Nat.le_of_ble_eq_true rfl⟩) (fun r hq9 => ?_)
      rw [hq9]
      refine lv_if_eq (tgt := 35) hx hb dX8_cast_29 (by decide) (fun c3 => ?_) (fun c3 => ?_)
      · skip
        rw [if_pos c3] at hJ
        rw [if_pos c3] at hV
        refine lv_aload_n hx hb dX8_cast_35 rfl (lv_at hl 0 rfl) ?_
        refine lv_iload_n hx hb dX8_cast_36 rfl (lv_at hl 1 rfl) ?_
        refine lv_iconst (v := (2 : Int32)) hx hb dX8_cast_37 (by decide) ?_
        obtain ⟨hv, hV⟩ := hV
        refine jn_l (J := 80) (ls := ls) (v := (if (2 : Int32) ≤ a1 then (if a1 = (2 : Int32) then (jX8_castReal (FP.f2d (jX8_floatOf a3)) a2) else (jX8_castReal (jX8_doubleOf a3) a2)) else (if a1 = 0 then (jX8_castWhole ((a3.toInt32).toInt64) a2) else (jX8_castWhole a3 a2)))) (rest := [.ref y]) ?_ (fun y4 ey4 => ?_)
        · intro hj
          refine lv_icmp_ge (tgt := 59) hx hb dX8_cast_38 (by decide) (fun c5 => ?_) (fun c5 => ?_)
          · skip
            rw [if_pos c5] at hj
            try rw [if_pos c5] at hv
            refine lv_iload_n hx hb dX8_cast_59 rfl (lv_at hl 1 rfl) ?_
            refine lv_iconst (v := (2 : Int32)) hx hb dX8_cast_60 (by decide) ?_
            refine lv_icmp_ne (tgt := 72) hx hb dX8_cast_61 (by decide) (fun c6 => ?_) (fun c6 => ?_)
            · skip
              rw [if_neg c6] at hj
              try rw [if_neg c6] at hv
              refine lv_lload_n hx hb dX8_cast_72 rfl (lv_at hl 3 rfl) ?_
              obtain ⟨hk7, hv⟩ := hv
              refine vp_callSd (W.runS (As := [.long a3]) (rest := [.ref y]) ⟨hx, hb, hml, hown, hts⟩ (qX8_doubleOf l a3 hk7) (va_cwS 1 hts gX8_cast_X8_doubleOf rfl rfl rfl (by decide +kernel) ⟨Nat.le_of_ble_eq_true rfl, Nat.le_of_ble_eq_true rfl⟩) ⟨fun _ _ _ _ q => q, fun U hU hW => rfl⟩ rfl rfl hl.1 rfl (lv_room (Nat.le_of_ble_eq_true rfl)) dX8_cast_73 ⟨Nat.le_of_ble_eq_true rfl, Nat.le_of_ble_eq_true rfl⟩) (fun r hq9 => ?_)
              rw [hq9]
              refine lv_iload_n hx hb dX8_cast_76 rfl (lv_at hl 2 rfl) ?_
              obtain ⟨hk8, hv⟩ := hv
              refine vp_callSl (W.runS (As := [.double (jX8_doubleOf a3), .int a2]) (rest := [.ref y]) ⟨hx, hb, hml, hown, hts⟩ (qX8_castReal l (jX8_doubleOf a3) a2 hk8) (va_cwS 2 hts gX8_cast_X8_castReal rfl rfl rfl (by decide +kernel) ⟨Nat.le_of_ble_eq_true rfl, Nat.le_of_ble_eq_true rfl⟩) ⟨fun _ _ _ _ q => q, fun U hU hW => rfl⟩ rfl rfl hl.1 rfl (lv_room (Nat.le_of_ble_eq_true rfl)) dX8_cast_77 ⟨Nat.le_of_ble_eq_true rfl, Nat.le_of_ble_eq_true rfl⟩) (fun r hq9 => ?_)
              rw [hq9]
              exact hj
            · skip
              rw [if_pos c6] at hj
              try rw [if_pos c6] at hv
              refine lv_lload_n hx hb dX8_cast_64 rfl (lv_at hl 3 rfl) ?_
              obtain ⟨hk9, hv⟩ := hv
              refine vp_callSf (W.runS (As := [.long a3]) (rest := [.ref y]) ⟨hx, hb, hml, hown, hts⟩ (qX8_floatOf l a3 hk9) (va_cwS 1 hts gX8_cast_X8_floatOf rfl rfl rfl (by decide +kernel) ⟨Nat.le_of_ble_eq_true rfl, Nat.le_of_ble_eq_true rfl⟩) ⟨fun _ _ _ _ q => q, fun U hU hW => rfl⟩ rfl rfl hl.1 rfl (lv_room (Nat.le_of_ble_eq_true rfl)) dX8_cast_65 ⟨Nat.le_of_ble_eq_true rfl, Nat.le_of_ble_eq_true rfl⟩) (fun r hq9 => ?_)
              rw [hq9]
              obtain ⟨hk10, hv⟩ := hv
              refine lv_f2d hx hb dX8_cast_68 hk10 ?_
              refine lv_goto (tgt := 76) hx hb dX8_cast_69 (by decide) ?_
              refine lv_iload_n hx hb dX8_cast_76 rfl (lv_at hl 2 rfl) ?_
              obtain ⟨hk11, hv⟩ := hv
              refine vp_callSl (W.runS (As := [.double (FP.f2d (jX8_floatOf a3)), .int a2]) (rest := [.ref y]) ⟨hx, hb, hml, hown, hts⟩ (qX8_castReal l (FP.f2d (jX8_floatOf a3)) a2 hk11) (va_cwS 2 hts gX8_cast_X8_castReal rfl rfl rfl (by decide +kernel) ⟨Nat.le_of_ble_eq_true rfl, Nat.le_of_ble_eq_true rfl⟩) ⟨fun _ _ _ _ q => q, fun U hU hW => rfl⟩ rfl rfl hl.1 rfl (lv_room (Nat.le_of_ble_eq_true rfl)) dX8_cast_77 ⟨Nat.le_of_ble_eq_true rfl, Nat.le_of_ble_eq_true rfl⟩) (fun r hq9 => ?_)
              rw [hq9]
              exact hj
          · skip
            rw [if_neg c5] at hj
            try rw [if_neg c5] at hv
            refine lv_iload_n hx hb dX8_cast_41 rfl (lv_at hl 1 rfl) ?_
            refine lv_if_ne (tgt := 51) hx hb dX8_cast_42 (by decide) (fun c12 => ?_) (fun c12 => ?_)
            · skip
              rw [if_neg c12] at hj
              try rw [if_neg c12] at hv
              refine lv_lload_n hx hb dX8_cast_51 rfl (lv_at hl 3 rfl) ?_
              refine lv_iload_n hx hb dX8_cast_52 rfl (lv_at hl 2 rfl) ?_
              refine vp_callSl (W.runS (As := [.long a3, .int a2]) (rest := [.ref y]) ⟨hx, hb, hml, hown, hts⟩ (qX8_castWhole l a3 a2) (va_cwS 2 hts gX8_cast_X8_castWhole rfl rfl rfl (by decide +kernel) ⟨Nat.le_of_ble_eq_true rfl, Nat.le_of_ble_eq_true rfl⟩) ⟨fun _ _ _ _ q => q, fun U hU hW => rfl⟩ rfl rfl hl.1 rfl (lv_room (Nat.le_of_ble_eq_true rfl)) dX8_cast_53 ⟨Nat.le_of_ble_eq_true rfl, Nat.le_of_ble_eq_true rfl⟩) (fun r hq9 => ?_)
              rw [hq9]
              refine lv_goto (tgt := 80) hx hb dX8_cast_56 (by decide) ?_
              exact hj
            · skip
              rw [if_pos c12] at hj
              try rw [if_pos c12] at hv
              refine lv_lload_n hx hb dX8_cast_45 rfl (lv_at hl 3 rfl) ?_
              refine lv_l2i (v := a3.toInt32) hx hb dX8_cast_46 rfl ?_
              refine lv_i2l (v := (a3.toInt32).toInt64) hx hb dX8_cast_47 rfl ?_
              refine lv_goto (tgt := 52) hx hb dX8_cast_48 (by decide) ?_
              refine lv_iload_n hx hb dX8_cast_52 rfl (lv_at hl 2 rfl) ?_
              refine vp_callSl (W.runS (As := [.long ((a3.toInt32).toInt64), .int a2]) (rest := [.ref y]) ⟨hx, hb, hml, hown, hts⟩ (qX8_castWhole l ((a3.toInt32).toInt64) a2) (va_cwS 2 hts gX8_cast_X8_castWhole rfl rfl rfl (by decide +kernel) ⟨Nat.le_of_ble_eq_true rfl, Nat.le_of_ble_eq_true rfl⟩) ⟨fun _ _ _ _ q => q, fun U hU hW => rfl⟩ rfl rfl hl.1 rfl (lv_room (Nat.le_of_ble_eq_true rfl)) dX8_cast_53 ⟨Nat.le_of_ble_eq_true rfl, Nat.le_of_ble_eq_true rfl⟩) (fun r hq9 => ?_)
              rw [hq9]
              refine lv_goto (tgt := 80) hx hb dX8_cast_56 (by decide) ?_
              exact hj
        rw [← ey4] at hJ
        rw [jX8_cast_y4] at hJ
        rw [← ey4] at hV
        rw [sX8_cast_y4] at hV
        have hV := hV.2
        refine va_put (D := (dC, dI)) (ci := 6) (v := .long y4) (ty := .long) (C := RX8) (T := TX8) (N := 20) (fs := wm_f bd o) hx hb hts hi_wsX80 tyX8 tyX8_ok nmX8 hown hK hP hD hS 0 rfl rfl 17 (by decide) (hts (.fieldLink RX8 202 "OrreryDialsModel" "seen" "J") (by decide +kernel)) (fun _ h9 => h9) rfl (by decide +kernel) rfl rfl (by rw [wm_len]; decide) dX8_cast_80 (fun H locs hP hD hS => ?_)
        rw [wm_p_seen] at hP hD
        refine lv_iconst (v := (1 : Int32)) hx hb dX8_cast_83 (by decide) ?_
        exact W.iret hx hb hr (fun t ht hW => ⟨⟨_, _, rfl, hJ.trans hE.symm, by rw [ht]; exact hP, va_K.moved hW.alike hK, hD⟩, hS.F ht⟩) hS.2.2 dX8_cast_84
      · skip
        rw [if_neg c3] at hJ
        rw [if_neg c3] at hV
        refine lv_bipush (v := (-102 : Int32)) hx hb dX8_cast_32 (by decide) ?_
        exact W.iret hx hb hr (fun t ht hW => ⟨⟨_, _, rfl, hJ.trans hE.symm, by rw [ht]; exact hP, va_K.moved hW.alike hK, hD⟩, hS.F ht⟩) hS.2.2 dX8_cast_34
def jX8_left_y9 (o : Ms) (a1 : Int32) (a2 : Int64) (a4 : Int64) (y1 : Int32) (y3 : Int32) (y9 : Int64) : Int32 × Ms := ((1 : Int32), (s_seen o y9))
def sX8_left_y9 (o : Ms) (a1 : Int32) (a2 : Int64) (a4 : Int64) (y1 : Int32) (y3 : Int32) (y9 : Int64) : Prop := True ∧ True
def jX8_left_y19 (o : Ms) (a1 : Int32) (a2 : Int64) (a4 : Int64) (y1 : Int32) (y3 : Int32) (y19 : Int64) : Int32 × Ms := ((1 : Int32), (s_seen o y19))
def sX8_left_y19 (o : Ms) (a1 : Int32) (a2 : Int64) (a4 : Int64) (y1 : Int32) (y3 : Int32) (y19 : Int64) : Prop := True ∧ True
def jX8_left_y3 (o : Ms) (a1 : Int32) (a2 : Int64) (a4 : Int64) (y1 : Int32) (y3 : Int32) : Int32 × Ms := (if (jX8_isFit a1 a2) = 0 then ((-102 : Int32), o) else (if y3 = 0 then (if a1 = 0 then (if (Op.cmpValue (FP.fcmp (jX8_floatOf a4) FP.fconst0) .l) = 0 then ((-102 : Int32), o) else (jX8_left_y9 o a1 a2 a4 y1 y3 (if a1 = 0 then ((jJxf58ca_floatToIntBits_5c35a (FP.frem (jX8_floatOf a2) (jX8_floatOf a4))).toInt64) else (jJxe99ae_doubleToLongBits_ccdee (FP.drem (jX8_doubleOf a2) (jX8_doubleOf a4)))))) else (if (Op.cmpValue (FP.dcmp (jX8_doubleOf a4) FP.dconst0) .l) = 0 then ((-102 : Int32), o) else (jX8_left_y19 o a1 a2 a4 y1 y3 (if a1 = 0 then ((jJxf58ca_floatToIntBits_5c35a (FP.frem (jX8_floatOf a2) (jX8_floatOf a4))).toInt64) else (jJxe99ae_doubleToLongBits_ccdee (FP.drem (jX8_doubleOf a2) (jX8_doubleOf a4))))))) else ((-102 : Int32), o)))
def sX8_left_y3 (o : Ms) (a1 : Int32) (a2 : Int64) (a4 : Int64) (y1 : Int32) (y3 : Int32) : Prop := True ∧ (if (jX8_isFit a1 a2) = 0 then True else (if y3 = 0 then (if a1 = 0 then (sX8_floatOf a4 ∧ (if (Op.cmpValue (FP.fcmp (jX8_floatOf a4) FP.fconst0) .l) = 0 then True else ((if a1 = 0 then (sX8_floatOf a2 ∧ (sX8_floatOf a4 ∧ (vf_n32 (FP.frem (jX8_floatOf a2) (jX8_floatOf a4)) ∧ True))) else (sX8_doubleOf a2 ∧ (sX8_doubleOf a4 ∧ (vf_n64 (FP.drem (jX8_doubleOf a2) (jX8_doubleOf a4)) ∧ True)))) ∧ (sX8_left_y9 o a1 a2 a4 y1 y3 (if a1 = 0 then ((jJxf58ca_floatToIntBits_5c35a (FP.frem (jX8_floatOf a2) (jX8_floatOf a4))).toInt64) else (jJxe99ae_doubleToLongBits_ccdee (FP.drem (jX8_doubleOf a2) (jX8_doubleOf a4)))))))) else (sX8_doubleOf a4 ∧ (if (Op.cmpValue (FP.dcmp (jX8_doubleOf a4) FP.dconst0) .l) = 0 then True else ((if a1 = 0 then (sX8_floatOf a2 ∧ (sX8_floatOf a4 ∧ (vf_n32 (FP.frem (jX8_floatOf a2) (jX8_floatOf a4)) ∧ True))) else (sX8_doubleOf a2 ∧ (sX8_doubleOf a4 ∧ (vf_n64 (FP.drem (jX8_doubleOf a2) (jX8_doubleOf a4)) ∧ True)))) ∧ (sX8_left_y19 o a1 a2 a4 y1 y3 (if a1 = 0 then ((jJxf58ca_floatToIntBits_5c35a (FP.frem (jX8_floatOf a2) (jX8_floatOf a4))).toInt64) else (jJxe99ae_doubleToLongBits_ccdee (FP.drem (jX8_doubleOf a2) (jX8_doubleOf a4))))))))) else True))
def jX8_left_y1 (o : Ms) (a1 : Int32) (a2 : Int64) (a4 : Int64) (y1 : Int32) : Int32 × Ms := (jX8_left_y3 o a1 a2 a4 y1 (jX8_isNone y1 a4))
def sX8_left_y1 (o : Ms) (a1 : Int32) (a2 : Int64) (a4 : Int64) (y1 : Int32) : Prop := True ∧ (sX8_left_y3 o a1 a2 a4 y1 (jX8_isNone y1 a4))
def jX8_left (o : Ms) (a1 : Int32) (a2 : Int64) (a4 : Int64) : Int32 × Ms := (jX8_left_y1 o a1 a2 a4 (if a1 = 0 then (2 : Int32) else (3 : Int32)))
def sX8_left (o : Ms) (a1 : Int32) (a2 : Int64) (a4 : Int64) : Prop := True ∧ (sX8_left_y1 o a1 a2 a4 (if a1 = 0 then (2 : Int32) else (3 : Int32)))
set_option linter.constructorNameAsVariable false in
set_option maxHeartbeats 8000000 in
set_option maxRecDepth 100000 in
theorem qX8_left (l : Launch) (dC : Nat → ClassId) (dI : Nat → Nat → Nat) (cy : Nat → ClassId) (y : Nat) (bd : Nat → Nat) (sz : Nat) (o : Ms) (a1 : Int32) (a2 : Int64) (a4 : Int64) (hV : sX8_left o a1 a2 a4) : Met l yX8_left wsX8_left ({ frames := 2, cells := 0, slots := 0, locals := 44 }) (va_Pc [.ref y, .int a1, .long a2, .long a4] (wI (dC, dI) (tyA cy) (WM cy y bd o) sz)) (va_Qi (fun r u => (r, u) = jX8_left o a1 a2 a4) (fun u t => wO (dC, dI) (tyA cy) (va_A (WM cy y bd o) sz) (WM cy y bd u) t) (va_A (WM cy y bd o) sz)) 0 0 (va_A (WM cy y bd o) sz) := by
  refine Met.ofW (cc := cX8_left) (maxL := 7) (ret := some .int) (by decide) rfl ?_
  intro p e s m args below meth c s₁ B hml hv
  obtain ⟨rfl, hsz, hP, hK, hD0, hk⟩ := hv
  have hx := B.exec
  have hb := B.bytes
  have hr := B.returns
  have hts := atoms_spec (ws := wsX8_left) B.pre
  have hown : s.vm.findClass RX8 = some m.cls := findClass_of_methodNamed B.named
  have hlocks := B.notSynchronized
  subst hsz
  have hD := hD0.self (sz := s.heap.size)
  generalize hAe : va_A (WM cy y bd o) s.heap.size = A at hD ⊢
  have hA : ∀ q : Nat, s.heap.size ≤ q → A q := fun q h => by rw [← hAe]; exact Or.inr h
  obtain ⟨H, hHe⟩ : ∃ H, s.heap = H := ⟨_, rfl⟩
  have hP : va_P (dC, dI) vwCl (WM cy y bd o) H := by rw [← hHe]; exact hP
  have hS : va_S A s.heap H [] := by rw [← hHe]; exact va_S.rf
  rw [w_heap hHe]
  have hi_wsX80 : ∀ w ∈ wsX80, w ∈ wsX8_left := fun _ h => List.mem_cons_of_mem _ (List.mem_append_right _ h)
  obtain ⟨JR, hE⟩ : ∃ q, jX8_left o a1 a2 a4 = q := ⟨_, rfl⟩
  have hJ := hE
  rw [jX8_left] at hJ
  rw [sX8_left] at hV
  have hV := hV.2
  have hl := lv_entry ([.ref y, .int a1, .long a2, .long a4]) (n := 7) (Nat.le_of_ble_eq_true rfl)
  rw [lg_entry_eq]
  generalize (lg_sl ([.ref y, .int a1, .long a2, .long a4]) ++ List.replicate (7 - (lg_sl ([.ref y, .int a1, .long a2, .long a4])).length) Slot.unset).toArray = ls at hl ⊢
  have hl : lv_has ls 7 [(0, .ref y), (1, .int a1), (2, .long a2), (4, .long a4)] := hl
  refine lv_iload_n hx hb dX8_left_0 rfl (lv_at hl 1 rfl) ?_
  refine jn_i (J := 9) (ls := ls) (v := (if a1 = 0 then (2 : Int32) else (3 : Int32))) (rest := []) ?_ (fun y1 ey1 => ?_)
  · intro hj
    refine lv_if_eq (tgt := 8) hx hb dX8_left_1 (by decide) (fun c2 => ?_) (fun c2 => ?_)
    · skip
      rw [if_pos c2] at hj
      try rw [if_pos c2] at hv
      refine lv_iconst (v := (2 : Int32)) hx hb dX8_left_8 (by decide) ?_
      exact hj
    · skip
      rw [if_neg c2] at hj
      try rw [if_neg c2] at hv
      refine lv_iconst (v := (3 : Int32)) hx hb dX8_left_4 (by decide) ?_
      refine lv_goto (tgt := 9) hx hb dX8_left_5 (by decide) ?_
      exact hj
  rw [← ey1] at hJ
  rw [jX8_left_y1] at hJ
  rw [← ey1] at hV
  rw [sX8_left_y1] at hV
  have hV := hV.2
  refine lv_lload hx hb dX8_left_9 (lv_at hl 3 rfl) ?_
  refine vp_callSi (W.runS (As := [.int y1, .long a4]) (rest := []) ⟨hx, hb, hml, hown, hts⟩ (qX8_isNone l y1 a4) (va_cwS 2 hts gX8_left_X8_isNone rfl rfl rfl (by decide +kernel) ⟨Nat.le_of_ble_eq_true rfl, Nat.le_of_ble_eq_true rfl⟩) ⟨fun _ _ _ _ q => q, fun U hU hW => rfl⟩ rfl rfl hl.1 rfl (lv_room (Nat.le_of_ble_eq_true rfl)) dX8_left_11 ⟨Nat.le_of_ble_eq_true rfl, Nat.le_of_ble_eq_true rfl⟩) (fun r hq9 => ?_)
  rw [hq9]
  refine lv_topi (fun y3 ey3 => ?_)
  rw [← ey3] at hJ
  rw [jX8_left_y3] at hJ
  rw [← ey3] at hV
  rw [sX8_left_y3] at hV
  have hV := hV.2
  refine lv_istore (lv' := [(6, .int y3), (0, .ref y), (1, .int a1), (2, .long a2), (4, .long a4)]) hx hb dX8_left_14 hl (by decide) rfl (fun ls hl => ?_)
  refine lv_iload_n hx hb dX8_left_16 rfl (lv_at hl 2 rfl) ?_
  refine lv_lload_n hx hb dX8_left_17 rfl (lv_at hl 3 rfl) ?_
  refine vp_callSi (W.runS (As := [.int a1, .long a2]) (rest := []) ⟨hx, hb, hml, hown, hts⟩ (qX8_isFit l a1 a2) (va_cwS 2 hts gX8_left_X8_isFit rfl rfl rfl (by decide +kernel) ⟨Nat.le_of_ble_eq_true rfl, Nat.le_of_ble_eq_true rfl⟩) ⟨fun _ _ _ _ q => q, fun U hU hW => rfl⟩ rfl rfl hl.1 rfl (lv_room (Nat.le_of_ble_eq_true rfl)) dX8_left_18 ⟨Nat.le_of_ble_eq_true rfl, Nat.le_of_ble_eq_true rfl⟩) (fun r hq9 => ?_)
  rw [hq9]
  refine lv_if_eq (tgt := 56) hx hb dX8_left_21 (by decide) (fun c4 => ?_) (fun c4 => ?_)
  · skip
    rw [if_pos c4] at hJ
    rw [if_pos c4] at hV
    refine lv_bipush (v := (-102 : Int32)) hx hb dX8_left_56 (by decide) ?_
    exact W.iret hx hb hr (fun t ht hW => ⟨⟨_, _, rfl, hJ.trans hE.symm, by rw [ht]; exact hP, va_K.moved hW.alike hK, hD⟩, hS.F ht⟩) hS.2.2 dX8_left_58
  · skip
    rw [if_neg c4] at hJ
    rw [if_neg c4] at hV
    refine lv_iload hx hb dX8_left_24 (lv_at hl 0 rfl) ?_
    refine lv_if_ne (tgt := 56) hx hb dX8_left_26 (by decide) (fun c5 => ?_) (fun c5 => ?_)
    · skip
      rw [if_neg c5] at hJ
      rw [if_neg c5] at hV
      refine lv_bipush (v := (-102 : Int32)) hx hb dX8_left_56 (by decide) ?_
      exact W.iret hx hb hr (fun t ht hW => ⟨⟨_, _, rfl, hJ.trans hE.symm, by rw [ht]; exact hP, va_K.moved hW.alike hK, hD⟩, hS.F ht⟩) hS.2.2 dX8_left_58
    · skip
      rw [if_pos c5] at hJ
      rw [if_pos c5] at hV
      refine lv_iload_n hx hb dX8_left_29 rfl (lv_at hl 2 rfl) ?_
      refine lv_if_eq (tgt := 46) hx hb dX8_left_30 (by decide) (fun c6 => ?_) (fun c6 => ?_)
      · skip
        rw [if_pos c6] at hJ
        rw [if_pos c6] at hV
        refine lv_lload hx hb dX8_left_46 (lv_at hl 4 rfl) ?_
        obtain ⟨hk7, hV⟩ := hV
        refine vp_callSf (W.runS (As := [.long a4]) (rest := []) ⟨hx, hb, hml, hown, hts⟩ (qX8_floatOf l a4 hk7) (va_cwS 1 hts gX8_left_X8_floatOf rfl rfl rfl (by decide +kernel) ⟨Nat.le_of_ble_eq_true rfl, Nat.le_of_ble_eq_true rfl⟩) ⟨fun _ _ _ _ q => q, fun U hU hW => rfl⟩ rfl rfl hl.1 rfl (lv_room (Nat.le_of_ble_eq_true rfl)) dX8_left_48 ⟨Nat.le_of_ble_eq_true rfl, Nat.le_of_ble_eq_true rfl⟩) (fun r hq9 => ?_)
        rw [hq9]
        refine lv_fconst0 hx hb dX8_left_51 ?_
        refine lv_fcmp hx hb dX8_left_52 ?_
        refine lv_if_ne (tgt := 59) hx hb dX8_left_53 (by decide) (fun c8 => ?_) (fun c8 => ?_)
        · skip
          rw [if_neg c8] at hJ
          rw [if_neg c8] at hV
          refine lv_aload_n hx hb dX8_left_59 rfl (lv_at hl 1 rfl) ?_
          refine lv_iload_n hx hb dX8_left_60 rfl (lv_at hl 2 rfl) ?_
          obtain ⟨hv, hV⟩ := hV
          refine jn_l (J := 94) (ls := ls) (v := (if a1 = 0 then ((jJxf58ca_floatToIntBits_5c35a (FP.frem (jX8_floatOf a2) (jX8_floatOf a4))).toInt64) else (jJxe99ae_doubleToLongBits_ccdee (FP.drem (jX8_doubleOf a2) (jX8_doubleOf a4))))) (rest := [.ref y]) ?_ (fun y9 ey9 => ?_)
          · intro hj
            refine lv_if_eq (tgt := 80) hx hb dX8_left_61 (by decide) (fun c10 => ?_) (fun c10 => ?_)
            · skip
              rw [if_pos c10] at hj
              try rw [if_pos c10] at hv
              refine lv_lload_n hx hb dX8_left_80 rfl (lv_at hl 3 rfl) ?_
              obtain ⟨hk11, hv⟩ := hv
              refine vp_callSf (W.runS (As := [.long a2]) (rest := [.ref y]) ⟨hx, hb, hml, hown, hts⟩ (qX8_floatOf l a2 hk11) (va_cwS 1 hts gX8_left_X8_floatOf rfl rfl rfl (by decide +kernel) ⟨Nat.le_of_ble_eq_true rfl, Nat.le_of_ble_eq_true rfl⟩) ⟨fun _ _ _ _ q => q, fun U hU hW => rfl⟩ rfl rfl hl.1 rfl (lv_room (Nat.le_of_ble_eq_true rfl)) dX8_left_81 ⟨Nat.le_of_ble_eq_true rfl, Nat.le_of_ble_eq_true rfl⟩) (fun r hq9 => ?_)
              rw [hq9]
              refine lv_lload hx hb dX8_left_84 (lv_at hl 4 rfl) ?_
              obtain ⟨hk12, hv⟩ := hv
              refine vp_callSf (W.runS (As := [.long a4]) (rest := [.float (jX8_floatOf a2), .ref y]) ⟨hx, hb, hml, hown, hts⟩ (qX8_floatOf l a4 hk12) (va_cwS 1 hts gX8_left_X8_floatOf rfl rfl rfl (by decide +kernel) ⟨Nat.le_of_ble_eq_true rfl, Nat.le_of_ble_eq_true rfl⟩) ⟨fun _ _ _ _ q => q, fun U hU hW => rfl⟩ rfl rfl hl.1 rfl (lv_room (Nat.le_of_ble_eq_true rfl)) dX8_left_86 ⟨Nat.le_of_ble_eq_true rfl, Nat.le_of_ble_eq_true rfl⟩) (fun r hq9 => ?_)
              rw [hq9]
              obtain ⟨hk13, hv⟩ := hv
              refine lv_frem hx hb dX8_left_89 hk13 ?_
              refine vp_callSi (W.runS (As := [.float (FP.frem (jX8_floatOf a2) (jX8_floatOf a4))]) (rest := [.ref y]) ⟨hx, hb, hml, hown, hts⟩ (qJxf58ca_floatToIntBits_5c35a l (FP.frem (jX8_floatOf a2) (jX8_floatOf a4))) (va_cwS 1 hts gX8_left_Jxf58ca_floatToIntBits_5c35a rfl rfl rfl (by decide +kernel) ⟨Nat.le_of_ble_eq_true rfl, Nat.le_of_ble_eq_true rfl⟩) ⟨fun _ _ _ _ q => q, fun U hU hW => rfl⟩ rfl rfl hl.1 rfl (lv_room (Nat.le_of_ble_eq_true rfl)) dX8_left_90 ⟨Nat.le_of_ble_eq_true rfl, Nat.le_of_ble_eq_true rfl⟩) (fun r hq9 => ?_)
              rw [hq9]
              refine lv_i2l (v := (jJxf58ca_floatToIntBits_5c35a (FP.frem (jX8_floatOf a2) (jX8_floatOf a4))).toInt64) hx hb dX8_left_93 rfl ?_
              exact hj
            · skip
              rw [if_neg c10] at hj
              try rw [if_neg c10] at hv
              refine lv_lload_n hx hb dX8_left_64 rfl (lv_at hl 3 rfl) ?_
              obtain ⟨hk14, hv⟩ := hv
              refine vp_callSd (W.runS (As := [.long a2]) (rest := [.ref y]) ⟨hx, hb, hml, hown, hts⟩ (qX8_doubleOf l a2 hk14) (va_cwS 1 hts gX8_left_X8_doubleOf rfl rfl rfl (by decide +kernel) ⟨Nat.le_of_ble_eq_true rfl, Nat.le_of_ble_eq_true rfl⟩) ⟨fun _ _ _ _ q => q, fun U hU hW => rfl⟩ rfl rfl hl.1 rfl (lv_room (Nat.le_of_ble_eq_true rfl)) dX8_left_65 ⟨Nat.le_of_ble_eq_true rfl, Nat.le_of_ble_eq_true rfl⟩) (fun r hq9 => ?_)
              rw [hq9]
              refine lv_lload hx hb dX8_left_68 (lv_at hl 4 rfl) ?_
              obtain ⟨hk15, hv⟩ := hv
              refine vp_callSd (W.runS (As := [.long a4]) (rest := [.double (jX8_doubleOf a2), .ref y]) ⟨hx, hb, hml, hown, hts⟩ (qX8_doubleOf l a4 hk15) (va_cwS 1 hts gX8_left_X8_doubleOf rfl rfl rfl (by decide +kernel) ⟨Nat.le_of_ble_eq_true rfl, Nat.le_of_ble_eq_true rfl⟩) ⟨fun _ _ _ _ q => q, fun U hU hW => rfl⟩ rfl rfl hl.1 rfl (lv_room (Nat.le_of_ble_eq_true rfl)) dX8_left_70 ⟨Nat.le_of_ble_eq_true rfl, Nat.le_of_ble_eq_true rfl⟩) (fun r hq9 => ?_)
              rw [hq9]
              obtain ⟨hk16, hv⟩ := hv
              refine lv_drem hx hb dX8_left_73 hk16 ?_
              refine vp_callSl (W.runS (As := [.double (FP.drem (jX8_doubleOf a2) (jX8_doubleOf a4))]) (rest := [.ref y]) ⟨hx, hb, hml, hown, hts⟩ (qJxe99ae_doubleToLongBits_ccdee l (FP.drem (jX8_doubleOf a2) (jX8_doubleOf a4))) (va_cwS 1 hts gX8_left_Jxe99ae_doubleToLongBits_ccdee rfl rfl rfl (by decide +kernel) ⟨Nat.le_of_ble_eq_true rfl, Nat.le_of_ble_eq_true rfl⟩) ⟨fun _ _ _ _ q => q, fun U hU hW => rfl⟩ rfl rfl hl.1 rfl (lv_room (Nat.le_of_ble_eq_true rfl)) dX8_left_74 ⟨Nat.le_of_ble_eq_true rfl, Nat.le_of_ble_eq_true rfl⟩) (fun r hq9 => ?_)
              rw [hq9]
              refine lv_goto (tgt := 94) hx hb dX8_left_77 (by decide) ?_
              exact hj
          rw [← ey9] at hJ
          rw [jX8_left_y9] at hJ
          rw [← ey9] at hV
          rw [sX8_left_y9] at hV
          have hV := hV.2
          refine va_put (D := (dC, dI)) (ci := 6) (v := .long y9) (ty := .long) (C := RX8) (T := TX8) (N := 20) (fs := wm_f bd o) hx hb hts hi_wsX80 tyX8 tyX8_ok nmX8 hown hK hP hD hS 0 rfl rfl 17 (by decide) (hts (.fieldLink RX8 202 "OrreryDialsModel" "seen" "J") (by decide +kernel)) (fun _ h9 => h9) rfl (by decide +kernel) rfl rfl (by rw [wm_len]; decide) dX8_left_94 (fun H locs hP hD hS => ?_)
          rw [wm_p_seen] at hP hD
          refine lv_iconst (v := (1 : Int32)) hx hb dX8_left_97 (by decide) ?_
          exact W.iret hx hb hr (fun t ht hW => ⟨⟨_, _, rfl, hJ.trans hE.symm, by rw [ht]; exact hP, va_K.moved hW.alike hK, hD⟩, hS.F ht⟩) hS.2.2 dX8_left_98
        · skip
          rw [if_pos c8] at hJ
          rw [if_pos c8] at hV
          refine lv_bipush (v := (-102 : Int32)) hx hb dX8_left_56 (by decide) ?_
          exact W.iret hx hb hr (fun t ht hW => ⟨⟨_, _, rfl, hJ.trans hE.symm, by rw [ht]; exact hP, va_K.moved hW.alike hK, hD⟩, hS.F ht⟩) hS.2.2 dX8_left_58
      · skip
        rw [if_neg c6] at hJ
        rw [if_neg c6] at hV
        refine lv_lload hx hb dX8_left_33 (lv_at hl 4 rfl) ?_
        obtain ⟨hk17, hV⟩ := hV
        refine vp_callSd (W.runS (As := [.long a4]) (rest := []) ⟨hx, hb, hml, hown, hts⟩ (qX8_doubleOf l a4 hk17) (va_cwS 1 hts gX8_left_X8_doubleOf rfl rfl rfl (by decide +kernel) ⟨Nat.le_of_ble_eq_true rfl, Nat.le_of_ble_eq_true rfl⟩) ⟨fun _ _ _ _ q => q, fun U hU hW => rfl⟩ rfl rfl hl.1 rfl (lv_room (Nat.le_of_ble_eq_true rfl)) dX8_left_35 ⟨Nat.le_of_ble_eq_true rfl, Nat.le_of_ble_eq_true rfl⟩) (fun r hq9 => ?_)
        rw [hq9]
        refine lv_dconst0 hx hb dX8_left_38 ?_
        refine lv_dcmp hx hb dX8_left_39 ?_
        refine lv_if_ne (tgt := 59) hx hb dX8_left_40 (by decide) (fun c18 => ?_) (fun c18 => ?_)
        · skip
          rw [if_neg c18] at hJ
          rw [if_neg c18] at hV
          refine lv_aload_n hx hb dX8_left_59 rfl (lv_at hl 1 rfl) ?_
          refine lv_iload_n hx hb dX8_left_60 rfl (lv_at hl 2 rfl) ?_
          obtain ⟨hv, hV⟩ := hV
          refine jn_l (J := 94) (ls := ls) (v := (if a1 = 0 then ((jJxf58ca_floatToIntBits_5c35a (FP.frem (jX8_floatOf a2) (jX8_floatOf a4))).toInt64) else (jJxe99ae_doubleToLongBits_ccdee (FP.drem (jX8_doubleOf a2) (jX8_doubleOf a4))))) (rest := [.ref y]) ?_ (fun y19 ey19 => ?_)
          · intro hj
            refine lv_if_eq (tgt := 80) hx hb dX8_left_61 (by decide) (fun c20 => ?_) (fun c20 => ?_)
            · skip
              rw [if_pos c20] at hj
              try rw [if_pos c20] at hv
              refine lv_lload_n hx hb dX8_left_80 rfl (lv_at hl 3 rfl) ?_
              obtain ⟨hk21, hv⟩ := hv
              refine vp_callSf (W.runS (As := [.long a2]) (rest := [.ref y]) ⟨hx, hb, hml, hown, hts⟩ (qX8_floatOf l a2 hk21) (va_cwS 1 hts gX8_left_X8_floatOf rfl rfl rfl (by decide +kernel) ⟨Nat.le_of_ble_eq_true rfl, Nat.le_of_ble_eq_true rfl⟩) ⟨fun _ _ _ _ q => q, fun U hU hW => rfl⟩ rfl rfl hl.1 rfl (lv_room (Nat.le_of_ble_eq_true rfl)) dX8_left_81 ⟨Nat.le_of_ble_eq_true rfl, Nat.le_of_ble_eq_true rfl⟩) (fun r hq9 => ?_)
              rw [hq9]
              refine lv_lload hx hb dX8_left_84 (lv_at hl 4 rfl) ?_
              obtain ⟨hk22, hv⟩ := hv
              refine vp_callSf (W.runS (As := [.long a4]) (rest := [.float (jX8_floatOf a2), .ref y]) ⟨hx, hb, hml, hown, hts⟩ (qX8_floatOf l a4 hk22) (va_cwS 1 hts gX8_left_X8_floatOf rfl rfl rfl (by decide +kernel) ⟨Nat.le_of_ble_eq_true rfl, Nat.le_of_ble_eq_true rfl⟩) ⟨fun _ _ _ _ q => q, fun U hU hW => rfl⟩ rfl rfl hl.1 rfl (lv_room (Nat.le_of_ble_eq_true rfl)) dX8_left_86 ⟨Nat.le_of_ble_eq_true rfl, Nat.le_of_ble_eq_true rfl⟩) (fun r hq9 => ?_)
              rw [hq9]
              obtain ⟨hk23, hv⟩ := hv
              refine lv_frem hx hb dX8_left_89 hk23 ?_
              refine vp_callSi (W.runS (As := [.float (FP.frem (jX8_floatOf a2) (jX8_floatOf a4))]) (rest := [.ref y]) ⟨hx, hb, hml, hown, hts⟩ (qJxf58ca_floatToIntBits_5c35a l (FP.frem (jX8_floatOf a2) (jX8_floatOf a4))) (va_cwS 1 hts gX8_left_Jxf58ca_floatToIntBits_5c35a rfl rfl rfl (by decide +kernel) ⟨Nat.le_of_ble_eq_true rfl, Nat.le_of_ble_eq_true rfl⟩) ⟨fun _ _ _ _ q => q, fun U hU hW => rfl⟩ rfl rfl hl.1 rfl (lv_room (Nat.le_of_ble_eq_true rfl)) dX8_left_90 ⟨Nat.le_of_ble_eq_true rfl, Nat.le_of_ble_eq_true rfl⟩) (fun r hq9 => ?_)
              rw [hq9]
              refine lv_i2l (v := (jJxf58ca_floatToIntBits_5c35a (FP.frem (jX8_floatOf a2) (jX8_floatOf a4))).toInt64) hx hb dX8_left_93 rfl ?_
              exact hj
            · skip
              rw [if_neg c20] at hj
              try rw [if_neg c20] at hv
              refine lv_lload_n hx hb dX8_left_64 rfl (lv_at hl 3 rfl) ?_
              obtain ⟨hk24, hv⟩ := hv
              refine vp_callSd (W.runS (As := [.long a2]) (rest := [.ref y]) ⟨hx, hb, hml, hown, hts⟩ (qX8_doubleOf l a2 hk24) (va_cwS 1 hts gX8_left_X8_doubleOf rfl rfl rfl (by decide +kernel) ⟨Nat.le_of_ble_eq_true rfl, Nat.le_of_ble_eq_true rfl⟩) ⟨fun _ _ _ _ q => q, fun U hU hW => rfl⟩ rfl rfl hl.1 rfl (lv_room (Nat.le_of_ble_eq_true rfl)) dX8_left_65 ⟨Nat.le_of_ble_eq_true rfl, Nat.le_of_ble_eq_true rfl⟩) (fun r hq9 => ?_)
              rw [hq9]
              refine lv_lload hx hb dX8_left_68 (lv_at hl 4 rfl) ?_
              obtain ⟨hk25, hv⟩ := hv
              refine vp_callSd (W.runS (As := [.long a4]) (rest := [.double (jX8_doubleOf a2), .ref y]) ⟨hx, hb, hml, hown, hts⟩ (qX8_doubleOf l a4 hk25) (va_cwS 1 hts gX8_left_X8_doubleOf rfl rfl rfl (by decide +kernel) ⟨Nat.le_of_ble_eq_true rfl, Nat.le_of_ble_eq_true rfl⟩) ⟨fun _ _ _ _ q => q, fun U hU hW => rfl⟩ rfl rfl hl.1 rfl (lv_room (Nat.le_of_ble_eq_true rfl)) dX8_left_70 ⟨Nat.le_of_ble_eq_true rfl, Nat.le_of_ble_eq_true rfl⟩) (fun r hq9 => ?_)
              rw [hq9]
              obtain ⟨hk26, hv⟩ := hv
              refine lv_drem hx hb dX8_left_73 hk26 ?_
              refine vp_callSl (W.runS (As := [.double (FP.drem (jX8_doubleOf a2) (jX8_doubleOf a4))]) (rest := [.ref y]) ⟨hx, hb, hml, hown, hts⟩ (qJxe99ae_doubleToLongBits_ccdee l (FP.drem (jX8_doubleOf a2) (jX8_doubleOf a4))) (va_cwS 1 hts gX8_left_Jxe99ae_doubleToLongBits_ccdee rfl rfl rfl (by decide +kernel) ⟨Nat.le_of_ble_eq_true rfl, Nat.le_of_ble_eq_true rfl⟩) ⟨fun _ _ _ _ q => q, fun U hU hW => rfl⟩ rfl rfl hl.1 rfl (lv_room (Nat.le_of_ble_eq_true rfl)) dX8_left_74 ⟨Nat.le_of_ble_eq_true rfl, Nat.le_of_ble_eq_true rfl⟩) (fun r hq9 => ?_)
              rw [hq9]
              refine lv_goto (tgt := 94) hx hb dX8_left_77 (by decide) ?_
              exact hj
          rw [← ey19] at hJ
          rw [jX8_left_y19] at hJ
          rw [← ey19] at hV
          rw [sX8_left_y19] at hV
          have hV := hV.2
          refine va_put (D := (dC, dI)) (ci := 6) (v := .long y19) (ty := .long) (C := RX8) (T := TX8) (N := 20) (fs := wm_f bd o) hx hb hts hi_wsX80 tyX8 tyX8_ok nmX8 hown hK hP hD hS 0 rfl rfl 17 (by decide) (hts (.fieldLink RX8 202 "OrreryDialsModel" "seen" "J") (by decide +kernel)) (fun _ h9 => h9) rfl (by decide +kernel) rfl rfl (by rw [wm_len]; decide) dX8_left_94 (fun H locs hP hD hS => ?_)
          rw [wm_p_seen] at hP hD
          refine lv_iconst (v := (1 : Int32)) hx hb dX8_left_97 (by decide) ?_
          exact W.iret hx hb hr (fun t ht hW => ⟨⟨_, _, rfl, hJ.trans hE.symm, by rw [ht]; exact hP, va_K.moved hW.alike hK, hD⟩, hS.F ht⟩) hS.2.2 dX8_left_98
        · skip
          rw [if_pos c18] at hJ
          rw [if_pos c18] at hV
          refine lv_goto (tgt := 56) hx hb dX8_left_43 (by decide) ?_
          refine lv_bipush (v := (-102 : Int32)) hx hb dX8_left_56 (by decide) ?_
          exact W.iret hx hb hr (fun t ht hW => ⟨⟨_, _, rfl, hJ.trans hE.symm, by rw [ht]; exact hP, va_K.moved hW.alike hK, hD⟩, hS.F ht⟩) hS.2.2 dX8_left_58
def jX8_failed (o : Ms) : Int32 := (m_failed o)
set_option linter.constructorNameAsVariable false in
set_option maxHeartbeats 8000000 in
set_option maxRecDepth 100000 in
theorem qX8_failed (l : Launch) (dC : Nat → ClassId) (dI : Nat → Nat → Nat) (cy : Nat → ClassId) (y : Nat) (bd : Nat → Nat) (sz : Nat) (o : Ms) : Met l yX8_failed wsX8_failed ({ frames := 0, cells := 0, slots := 0, locals := 0 }) (va_Pc [.ref y] (wI (dC, dI) (tyA cy) (WM cy y bd o) sz)) (vp_Si (fun r => r = jX8_failed o)) 0 0 (fun _ => False) := by
  refine Met.ofW (cc := cX8_failed) (maxL := 1) (ret := some .int) (by decide) rfl ?_
  intro p e s m args below meth c s₁ B hml hv
  obtain ⟨rfl, hsz, hP, hK, hD0, hk⟩ := hv
  have hx := B.exec
  have hb := B.bytes
  have hr := B.returns
  have hts := atoms_spec (ws := wsX8_failed) B.pre
  have hown : s.vm.findClass RX8 = some m.cls := findClass_of_methodNamed B.named
  have hlocks := B.notSynchronized
  subst hsz
  have hD := hD0
  obtain ⟨H, hHe⟩ : ∃ H, s.heap = H := ⟨_, rfl⟩
  have hP : va_P (dC, dI) vwCl (WM cy y bd o) H := by rw [← hHe]; exact hP
  rw [w_heap hHe]
  have hi_wsX80 : ∀ w ∈ wsX80, w ∈ wsX8_failed := fun _ h => List.mem_cons_of_mem _ (List.mem_append_right _ h)
  obtain ⟨JR, hE⟩ : ∃ q, jX8_failed o = q := ⟨_, rfl⟩
  have hJ := hE
  rw [jX8_failed] at hJ
  have hl := lv_entry ([.ref y]) (n := 1) (Nat.le_of_ble_eq_true rfl)
  rw [lg_entry_eq]
  generalize (lg_sl ([.ref y]) ++ List.replicate (1 - (lg_sl ([.ref y])).length) Slot.unset).toArray = ls at hl ⊢
  have hl : lv_has ls 1 [(0, .ref y)] := hl
  refine lv_aload_n hx hb dX8_failed_0 rfl (lv_at hl 0 rfl) ?_
  refine va_get (D := (dC, dI)) (ci := 6) (v := .int (m_failed o)) (C := RX8) (T := TX8) (N := 20) (fs := wm_f bd o) hx hb hts hi_wsX80 hown hK hP 0 rfl rfl 18 (by decide) (hts (.fieldLink RX8 66 "OrreryDialsModel" "failed" "I") (by decide +kernel)) (fun _ h9 => h9) rfl dX8_failed_1 ?_
  exact W.iret hx hb hr (fun t ht hW => ⟨_, rfl, hJ.trans hE.symm, ht.trans hHe.symm⟩) (fun q h => absurd h List.not_mem_nil) dX8_failed_4
def jX8_about (o : Ms) (a1 : Int32) : Int32 := (if a1 = 0 then (m_dials o) else (if a1 = (1 : Int32) then (m_drives o) else (if (jX8_in (a1.toInt64) (2 : Int64) (6 : Int64)) = 0 then (-102 : Int32) else (m_counts o (a1 - (2 : Int32)).toNatClampNeg))))
def sX8_about (o : Ms) (a1 : Int32) : Prop := True ∧ (if a1 = 0 then True else (if a1 = (1 : Int32) then True else (if (jX8_in (a1.toInt64) (2 : Int64) (6 : Int64)) = 0 then True else (vp_in (a1 - (2 : Int32)) 5 ∧ True))))
set_option linter.constructorNameAsVariable false in
set_option maxHeartbeats 8000000 in
set_option maxRecDepth 100000 in
theorem qX8_about (l : Launch) (dC : Nat → ClassId) (dI : Nat → Nat → Nat) (cy : Nat → ClassId) (y : Nat) (bd : Nat → Nat) (sz : Nat) (o : Ms) (a1 : Int32) (hV : sX8_about o a1) : Met l yX8_about wsX8_about ({ frames := 1, cells := 0, slots := 0, locals := 25 }) (va_Pc [.ref y, .int a1] (wI (dC, dI) (tyA cy) (WM cy y bd o) sz)) (vp_Si (fun r => r = jX8_about o a1)) 0 0 (fun _ => False) := by
  refine Met.ofW (cc := cX8_about) (maxL := 2) (ret := some .int) (by decide) rfl ?_
  intro p e s m args below meth c s₁ B hml hv
  obtain ⟨rfl, hsz, hP, hK, hD0, hk⟩ := hv
  have hx := B.exec
  have hb := B.bytes
  have hr := B.returns
  have hts := atoms_spec (ws := wsX8_about) B.pre
  have hown : s.vm.findClass RX8 = some m.cls := findClass_of_methodNamed B.named
  have hlocks := B.notSynchronized
  subst hsz
  have hD := hD0
  obtain ⟨H, hHe⟩ : ∃ H, s.heap = H := ⟨_, rfl⟩
  have hP : va_P (dC, dI) vwCl (WM cy y bd o) H := by rw [← hHe]; exact hP
  rw [w_heap hHe]
  have hi_wsX80 : ∀ w ∈ wsX80, w ∈ wsX8_about := fun _ h => List.mem_cons_of_mem _ (List.mem_append_right _ h)
  obtain ⟨JR, hE⟩ : ∃ q, jX8_about o a1 = q := ⟨_, rfl⟩
  have hJ := hE
  rw [jX8_about] at hJ
  rw [sX8_about] at hV
  have hV := hV.2
  have hl := lv_entry ([.ref y, .int a1]) (n := 2) (Nat.le_of_ble_eq_true rfl)
  rw [lg_entry_eq]
  generalize (lg_sl ([.ref y, .int a1]) ++ List.replicate (2 - (lg_sl ([.ref y, .int a1])).length) Slot.unset).toArray = ls at hl ⊢
  have hl : lv_has ls 2 [(0, .ref y), (1, .int a1)] := hl
  refine lv_iload_n hx hb dX8_about_0 rfl (lv_at hl 1 rfl) ?_
  refine lv_if_ne (tgt := 11) hx hb dX8_about_1 (by decide) (fun c1 => ?_) (fun c1 => ?_)
  · skip
    rw [if_neg c1] at hJ
    rw [if_neg c1] at hV
    refine lv_iload_n hx hb dX8_about_11 rfl (lv_at hl 1 rfl) ?_
    refine lv_iconst (v := (1 : Int32)) hx hb dX8_about_12 (by decide) ?_
    refine lv_icmp_ne (tgt := 23) hx hb dX8_about_13 (by decide) (fun c2 => ?_) (fun c2 => ?_)
    · skip
      rw [if_neg c2] at hJ
      rw [if_neg c2] at hV
      refine lv_iload_n hx hb dX8_about_23 rfl (lv_at hl 1 rfl) ?_
      refine lv_i2l (v := a1.toInt64) hx hb dX8_about_24 rfl ?_
      refine lv_ldc2 (v := (2 : Int64)) hx hb hown (hts (.constantLong RX8 161 (2)) (by decide +kernel)) dX8_about_25 ?_
      refine lv_ldc2 (v := (6 : Int64)) hx hb hown (hts (.constantLong RX8 217 (6)) (by decide +kernel)) dX8_about_28 ?_
      refine vp_callSi (W.runS (As := [.long (a1.toInt64), .long (2 : Int64), .long (6 : Int64)]) (rest := []) ⟨hx, hb, hml, hown, hts⟩ (qX8_in l (a1.toInt64) (2 : Int64) (6 : Int64)) (va_cwS 3 hts gX8_about_X8_in rfl rfl rfl (by decide +kernel) ⟨Nat.le_of_ble_eq_true rfl, Nat.le_of_ble_eq_true rfl⟩) ⟨fun _ _ _ _ q => q, fun U hU hW => rfl⟩ rfl rfl hl.1 rfl (lv_room (Nat.le_of_ble_eq_true rfl)) dX8_about_31 ⟨Nat.le_of_ble_eq_true rfl, Nat.le_of_ble_eq_true rfl⟩) (fun r hq9 => ?_)
      rw [hq9]
      refine lv_if_eq (tgt := 48) hx hb dX8_about_34 (by decide) (fun c3 => ?_) (fun c3 => ?_)
      · skip
        rw [if_pos c3] at hJ
        rw [if_pos c3] at hV
        refine lv_bipush (v := (-102 : Int32)) hx hb dX8_about_48 (by decide) ?_
        exact W.iret hx hb hr (fun t ht hW => ⟨_, rfl, hJ.trans hE.symm, ht.trans hHe.symm⟩) (fun q h => absurd h List.not_mem_nil) dX8_about_50
      · skip
        rw [if_neg c3] at hJ
        rw [if_neg c3] at hV
        refine lv_aload_n hx hb dX8_about_37 rfl (lv_at hl 0 rfl) ?_
        refine va_get (D := (dC, dI)) (ci := 6) (v := .ref (bd 15)) (C := RX8) (T := TX8) (N := 20) (fs := wm_f bd o) hx hb hts hi_wsX80 hown hK hP 0 rfl rfl 19 (by decide) (hts (.fieldLink RX8 59 "OrreryDialsModel" "counts" "[I") (by decide +kernel)) (fun _ h9 => h9) rfl dX8_about_38 ?_
        refine lv_iload_n hx hb dX8_about_41 rfl (lv_at hl 1 rfl) ?_
        refine lv_iconst (v := (2 : Int32)) hx hb dX8_about_42 (by decide) ?_
        refine lv_isub hx hb dX8_about_43 ?_
        obtain ⟨hk4, hV⟩ := hV
        refine va_iald hx hb hK hP 16 0 rfl rfl hk4 dX8_about_44 ?_
        refine lv_goto (tgt := 50) hx hb dX8_about_45 (by decide) ?_
        exact W.iret hx hb hr (fun t ht hW => ⟨_, rfl, hJ.trans hE.symm, ht.trans hHe.symm⟩) (fun q h => absurd h List.not_mem_nil) dX8_about_50
    · skip
      rw [if_pos c2] at hJ
      rw [if_pos c2] at hV
      refine lv_aload_n hx hb dX8_about_16 rfl (lv_at hl 0 rfl) ?_
      refine va_get (D := (dC, dI)) (ci := 6) (v := .int (m_drives o)) (C := RX8) (T := TX8) (N := 20) (fs := wm_f bd o) hx hb hts hi_wsX80 hown hK hP 0 rfl rfl 7 (by decide) (hts (.fieldLink RX8 156 "OrreryDialsModel" "drives" "I") (by decide +kernel)) (fun _ h9 => h9) rfl dX8_about_17 ?_
      refine lv_goto (tgt := 50) hx hb dX8_about_20 (by decide) ?_
      exact W.iret hx hb hr (fun t ht hW => ⟨_, rfl, hJ.trans hE.symm, ht.trans hHe.symm⟩) (fun q h => absurd h List.not_mem_nil) dX8_about_50
  · skip
    rw [if_pos c1] at hJ
    rw [if_pos c1] at hV
    refine lv_aload_n hx hb dX8_about_4 rfl (lv_at hl 0 rfl) ?_
    refine va_get (D := (dC, dI)) (ci := 6) (v := .int (m_dials o)) (C := RX8) (T := TX8) (N := 20) (fs := wm_f bd o) hx hb hts hi_wsX80 hown hK hP 0 rfl rfl 0 (by decide) (hts (.fieldLink RX8 62 "OrreryDialsModel" "dials" "I") (by decide +kernel)) (fun _ h9 => h9) rfl dX8_about_5 ?_
    refine lv_goto (tgt := 50) hx hb dX8_about_8 (by decide) ?_
    exact W.iret hx hb hr (fun t ht hW => ⟨_, rfl, hJ.trans hE.symm, ht.trans hHe.symm⟩) (fun q h => absurd h List.not_mem_nil) dX8_about_50
