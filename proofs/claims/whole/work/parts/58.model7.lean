def jX8_spin_y9 (o : Ms) (a1 : Int32) (a2 : Int64) (a4 : Int32) (v5 : Int32) (oL : Ms) (rec_ : Int32 → Ms → (Int32 × Ms)) (y9 : Int32) : Int32 × Ms := (v5, (jX8_fails ((jX8_goes oL a1 a2).2) (-15 : Int32)).2)
def sX8_spin_y9 (o : Ms) (a1 : Int32) (a2 : Int64) (a4 : Int32) (v5 : Int32) (oL : Ms) (srec_ : Int32 → Ms → Prop) (y9 : Int32) : Prop := True ∧ True
def jX8_spin_L_S (o : Ms) (a1 : Int32) (a2 : Int64) (a4 : Int32) (rec_ : Int32 → Ms → (Int32 × Ms)) (v5 : Int32) (oL : Ms) : Int32 × Ms := (if a4 ≤ v5 then (a4, oL) else (if ((jX8_goes oL a1 a2).1) = 0 then (jX8_spin_y9 o a1 a2 a4 v5 oL rec_ ((jX8_fails ((jX8_goes oL a1 a2).2) (-15 : Int32)).1)) else (rec_ (v5 + (1 : Int32)) ((jX8_goes oL a1 a2).2))))
def jX8_spin_L (o : Ms) (a1 : Int32) (a2 : Int64) (a4 : Int32) : Nat → Int32 → Ms → (Int32 × Ms)
  | 0, _, oL => ((0 : Int32), oL)
  | n + 1, v5, oL => jX8_spin_L_S o a1 a2 a4 (jX8_spin_L o a1 a2 a4 n) v5 oL
theorem jX8_spin_L_s (o : Ms) (a1 : Int32) (a2 : Int64) (a4 : Int32) (n : Nat) (v5 : Int32) (oL : Ms) : jX8_spin_L o a1 a2 a4 (n + 1) v5 oL = jX8_spin_L_S o a1 a2 a4 (jX8_spin_L o a1 a2 a4 n) v5 oL := rfl
def sX8_spin_L_S (o : Ms) (a1 : Int32) (a2 : Int64) (a4 : Int32) (srec_ : Int32 → Ms → Prop) (v5 : Int32) (oL : Ms) : Prop := True ∧ (if a4 ≤ v5 then True else (sX8_goes oL a1 a2 ∧ (if ((jX8_goes oL a1 a2).1) = 0 then (sX8_fails ((jX8_goes oL a1 a2).2) (-15 : Int32) ∧ (sX8_spin_y9 o a1 a2 a4 v5 oL srec_ ((jX8_fails ((jX8_goes oL a1 a2).2) (-15 : Int32)).1))) else (srec_ (v5 + (1 : Int32)) ((jX8_goes oL a1 a2).2)))))
def sX8_spin_L (o : Ms) (a1 : Int32) (a2 : Int64) (a4 : Int32) : Nat → Int32 → Ms → Prop
  | 0, _, _ => False
  | n + 1, v5, oL => sX8_spin_L_S o a1 a2 a4 (sX8_spin_L o a1 a2 a4 n) v5 oL
theorem sX8_spin_L_s (o : Ms) (a1 : Int32) (a2 : Int64) (a4 : Int32) (n : Nat) (v5 : Int32) (oL : Ms) : sX8_spin_L o a1 a2 a4 (n + 1) v5 oL = sX8_spin_L_S o a1 a2 a4 (sX8_spin_L o a1 a2 a4 n) v5 oL := rfl
def jX8_spin (o : Ms) (a1 : Int32) (a2 : Int64) (a4 : Int32) : Int32 × Ms := (if (jX8_isDial o a1) = 0 then ((-101 : Int32), o) else (if (jX8_isFit (m_isFine o a1.toNatClampNeg) a2) = 0 then ((-102 : Int32), o) else (if (jX8_in (a4.toInt64) (0 : Int64) (40 : Int64)) = 0 then ((-102 : Int32), o) else (jX8_spin_L o a1 a2 a4 64 (0 : Int32) (s_failed o (0 : Int32))))))
def sX8_spin (o : Ms) (a1 : Int32) (a2 : Int64) (a4 : Int32) : Prop := True ∧ (if (jX8_isDial o a1) = 0 then True else (vp_in a1 12 ∧ (if (jX8_isFit (m_isFine o a1.toNatClampNeg) a2) = 0 then True else (if (jX8_in (a4.toInt64) (0 : Int64) (40 : Int64)) = 0 then True else (sX8_spin_L o a1 a2 a4 64 (0 : Int32) (s_failed o (0 : Int32)))))))
set_option linter.constructorNameAsVariable false in
set_option maxHeartbeats 8000000 in
set_option maxRecDepth 100000 in
theorem qX8_spin (l : Launch) (dC : Nat → ClassId) (dI : Nat → Nat → Nat) (cy : Nat → ClassId) (y : Nat) (bd : Nat → Nat) (sz : Nat) (o : Ms) (a1 : Int32) (a2 : Int64) (a4 : Int32) (hV : sX8_spin o a1 a2 a4) : Met l yX8_spin wsX8_spin ({ frames := 3, cells := 0, slots := 0, locals := 69 }) (va_Pc [.ref y, .int a1, .long a2, .int a4] (wI (dC, dI) (tyA cy) (WM cy y bd o) sz)) (va_Qi (fun r u => (r, u) = jX8_spin o a1 a2 a4) (fun u t => wO (dC, dI) (tyA cy) (va_A (WM cy y bd o) sz) (WM cy y bd u) t) (va_A (WM cy y bd o) sz)) 0 0 (va_A (WM cy y bd o) sz) := by
  refine Met.ofW (cc := cX8_spin) (maxL := 7) (ret := some .int) (by decide) rfl ?_
  intro p e s m args below meth c s₁ B hml hv
  obtain ⟨rfl, hsz, hP, hK, hD0, hk⟩ := hv
  have hx := B.exec
  have hb := B.bytes
  have hr := B.returns
  have hts := atoms_spec (ws := wsX8_spin) B.pre
  have hown : s.vm.findClass RX8 = some m.cls := findClass_of_methodNamed B.named
  have hlocks := B.notSynchronized
  subst hsz
  have hD := hD0.self (sz := s.heap.size)
  generalize hAe : va_A (WM cy y bd o) s.heap.size = A at hD ⊢
  have hA : ∀ q : Nat, s.heap.size ≤ q → A q := fun q h => by rw [← hAe]; exact Or.inr h
  obtain ⟨H, hHe⟩ : ∃ H, s.heap = H := ⟨_, rfl⟩
  have hP : va_P (dC, dI) vwCl (WM cy y bd o) H := by rw [← hHe]; exact hP
  have hS : va_S A s.heap H [] := by rw [← hHe]; exact va_S.rf
  rw [w_heap hHe]
  have hi_wsX80 : ∀ w ∈ wsX80, w ∈ wsX8_spin := fun _ h => List.mem_cons_of_mem _ (List.mem_append_right _ h)
  obtain ⟨JR, hE⟩ : ∃ q, jX8_spin o a1 a2 a4 = q := ⟨_, rfl⟩
  have hJ := hE
  rw [jX8_spin] at hJ
  rw [sX8_spin] at hV
  have hV := hV.2
  have hl := lv_entry ([.ref y, .int a1, .long a2, .int a4]) (n := 7) (Nat.le_of_ble_eq_true rfl)
  rw [lg_entry_eq]
  generalize (lg_sl ([.ref y, .int a1, .long a2, .int a4]) ++ List.replicate (7 - (lg_sl ([.ref y, .int a1, .long a2, .int a4])).length) Slot.unset).toArray = ls at hl ⊢
  have hl : lv_has ls 7 [(0, .ref y), (1, .int a1), (2, .long a2), (4, .int a4)] := hl
  refine lv_aload_n hx hb dX8_spin_0 rfl (lv_at hl 0 rfl) ?_
  refine lv_iload_n hx hb dX8_spin_1 rfl (lv_at hl 1 rfl) ?_
  refine vp_callSi (W.runV (As := [.int a1]) (rest := []) ⟨hx, hb, hml, hown, hts⟩ (qX8_isDial l dC dI cy y bd H.size o a1) (cwV 1 hts gX8_spin_X8_isDial rfl rfl rfl (by decide +kernel) ⟨Nat.le_of_ble_eq_true rfl, Nat.le_of_ble_eq_true rfl⟩) (pV hK hP hD hk (q0 := 0) rfl rfl) rfl rfl hl.1 rfl (lv_room (Nat.le_of_ble_eq_true rfl)) dX8_spin_2 ⟨Nat.le_of_ble_eq_true rfl, Nat.le_of_ble_eq_true rfl⟩) (fun r hq9 => ?_)
  rw [hq9]
  refine lv_if_ne (tgt := 11) hx hb dX8_spin_5 (by decide) (fun c1 => ?_) (fun c1 => ?_)
  · skip
    rw [if_neg c1] at hJ
    rw [if_neg c1] at hV
    refine lv_aload_n hx hb dX8_spin_11 rfl (lv_at hl 0 rfl) ?_
    refine va_get (D := (dC, dI)) (ci := 6) (v := .ref (bd 0)) (C := RX8) (T := TX8) (N := 20) (fs := wm_f bd o) hx hb hts hi_wsX80 hown hK hP 0 rfl rfl 1 (by decide) (hts (.fieldLink RX8 7 "OrreryDialsModel" "isFine" "[Z") (by decide +kernel)) (fun _ h9 => h9) rfl dX8_spin_12 ?_
    refine lv_iload_n hx hb dX8_spin_15 rfl (lv_at hl 1 rfl) ?_
    obtain ⟨hk2, hV⟩ := hV
    refine va_zald hx hb hK hP 1 2 rfl rfl hk2 dX8_spin_16 ?_
    refine lv_lload_n hx hb dX8_spin_17 rfl (lv_at hl 2 rfl) ?_
    refine vp_callSi (W.runS (As := [.int (m_isFine o a1.toNatClampNeg), .long a2]) (rest := []) ⟨hx, hb, hml, hown, hts⟩ (qX8_isFit l (m_isFine o a1.toNatClampNeg) a2) (va_cwS 2 hts gX8_spin_X8_isFit rfl rfl rfl (by decide +kernel) ⟨Nat.le_of_ble_eq_true rfl, Nat.le_of_ble_eq_true rfl⟩) ⟨fun _ _ _ _ q => q, fun U hU hW => rfl⟩ rfl rfl hl.1 rfl (lv_room (Nat.le_of_ble_eq_true rfl)) dX8_spin_18 ⟨Nat.le_of_ble_eq_true rfl, Nat.le_of_ble_eq_true rfl⟩) (fun r hq9 => ?_)
    rw [hq9]
    refine lv_if_eq (tgt := 37) hx hb dX8_spin_21 (by decide) (fun c3 => ?_) (fun c3 => ?_)
    · skip
      rw [if_pos c3] at hJ
      rw [if_pos c3] at hV
      refine lv_bipush (v := (-102 : Int32)) hx hb dX8_spin_37 (by decide) ?_
      exact W.iret hx hb hr (fun t ht hW => ⟨⟨_, _, rfl, hJ.trans hE.symm, by rw [ht]; exact hP, va_K.moved hW.alike hK, hD⟩, hS.F ht⟩) hS.2.2 dX8_spin_39
    · skip
      rw [if_neg c3] at hJ
      rw [if_neg c3] at hV
      refine lv_iload hx hb dX8_spin_24 (lv_at hl 3 rfl) ?_
      refine lv_i2l (v := a4.toInt64) hx hb dX8_spin_26 rfl ?_
      refine lv_lconst (v := (0 : Int64)) hx hb dX8_spin_27 (by decide) ?_
      refine lv_ldc2 (v := (40 : Int64)) hx hb hown (hts (.constantLong RX8 146 (40)) (by decide +kernel)) dX8_spin_28 ?_
      refine vp_callSi (W.runS (As := [.long (a4.toInt64), .long (0 : Int64), .long (40 : Int64)]) (rest := []) ⟨hx, hb, hml, hown, hts⟩ (qX8_in l (a4.toInt64) (0 : Int64) (40 : Int64)) (va_cwS 3 hts gX8_spin_X8_in rfl rfl rfl (by decide +kernel) ⟨Nat.le_of_ble_eq_true rfl, Nat.le_of_ble_eq_true rfl⟩) ⟨fun _ _ _ _ q => q, fun U hU hW => rfl⟩ rfl rfl hl.1 rfl (lv_room (Nat.le_of_ble_eq_true rfl)) dX8_spin_31 ⟨Nat.le_of_ble_eq_true rfl, Nat.le_of_ble_eq_true rfl⟩) (fun r hq9 => ?_)
      rw [hq9]
      refine lv_if_ne (tgt := 40) hx hb dX8_spin_34 (by decide) (fun c4 => ?_) (fun c4 => ?_)
      · skip
        rw [if_neg c4] at hJ
        rw [if_neg c4] at hV
        refine lv_aload_n hx hb dX8_spin_40 rfl (lv_at hl 0 rfl) ?_
        refine lv_iconst (v := (0 : Int32)) hx hb dX8_spin_41 (by decide) ?_
        refine va_put (D := (dC, dI)) (ci := 6) (v := .int (0 : Int32)) (ty := .int) (C := RX8) (T := TX8) (N := 20) (fs := wm_f bd o) hx hb hts hi_wsX80 tyX8 tyX8_ok nmX8 hown hK hP hD hS 0 rfl rfl 18 (by decide) (hts (.fieldLink RX8 66 "OrreryDialsModel" "failed" "I") (by decide +kernel)) (fun _ h9 => h9) rfl (by decide +kernel) rfl rfl (by rw [wm_len]; decide) dX8_spin_42 (fun H locs hP hD hS => ?_)
        rw [wm_p_failed] at hP hD
        refine lv_iconst (v := (0 : Int32)) hx hb dX8_spin_45 (by decide) ?_
        refine lv_istore (lv' := [(5, .int (0 : Int32)), (0, .ref y), (1, .int a1), (2, .long a2), (4, .int a4)]) hx hb dX8_spin_46 hl (by decide) rfl (fun ls hl => ?_)
        refine jn_loopH (α := Int32 × Ms × Array Slot) (P := fun q => F0 m 48 q.2.2 []) (I := fun n H locs q => lv_has q.2.2 7 [(5, .int q.1), (0, .ref y), (1, .int a1), (2, .long a2), (4, .int a4)] ∧ va_P (dC, dI) vwCl (WM cy y bd q.2.1) H ∧ va_D A (WM cy y bd q.2.1) ∧ va_S A s.heap H locs ∧ jX8_spin_L o a1 a2 a4 n q.1 q.2.1 = JR ∧ sX8_spin_L o a1 a2 a4 n q.1 q.2.1) ?_ 64 _ _ ((0 : Int32), (s_failed o (0 : Int32)), ls) ⟨hl, hP, hD, hS, hJ, hV⟩
        intro n H locs ⟨v5, oL, ls⟩ ⟨hl, hP, hD, hS, hJ, hV⟩ ih
        have hl : lv_has ls 7 [(5, .int v5), (0, .ref y), (1, .int a1), (2, .long a2), (4, .int a4)] := hl
        have hP : va_P (dC, dI) vwCl (WM cy y bd oL) H := hP
        have hD : va_D A (WM cy y bd oL) := hD
        have hJ : jX8_spin_L o a1 a2 a4 n v5 oL = JR := hJ
        have hV : sX8_spin_L o a1 a2 a4 n v5 oL := hV
        rcases n with _ | n
        · exact hV.elim
        rw [jX8_spin_L_s, jX8_spin_L_S] at hJ
        rw [sX8_spin_L_s, sX8_spin_L_S] at hV
        have hV := hV.2
        refine lv_iload hx hb dX8_spin_48 (lv_at hl 0 rfl) ?_
        refine lv_iload hx hb dX8_spin_50 (lv_at hl 4 rfl) ?_
        refine lv_icmp_ge (tgt := 81) hx hb dX8_spin_52 (by decide) (fun c5 => ?_) (fun c5 => ?_)
        · skip
          rw [if_pos c5] at hJ
          rw [if_pos c5] at hV
          refine lv_iload hx hb dX8_spin_81 (lv_at hl 4 rfl) ?_
          exact W.iret hx hb hr (fun t ht hW => ⟨⟨_, _, rfl, hJ.trans hE.symm, by rw [ht]; exact hP, va_K.moved hW.alike hK, hD⟩, hS.F ht⟩) hS.2.2 dX8_spin_83
        · skip
          rw [if_neg c5] at hJ
          rw [if_neg c5] at hV
          refine lv_aload_n hx hb dX8_spin_55 rfl (lv_at hl 1 rfl) ?_
          refine lv_iload_n hx hb dX8_spin_56 rfl (lv_at hl 2 rfl) ?_
          refine lv_lload_n hx hb dX8_spin_57 rfl (lv_at hl 3 rfl) ?_
          obtain ⟨hk6, hV⟩ := hV
          refine cl_i (va_runV (As := [.int a1, .long a2]) (rest := []) ⟨hx, hb, hml, hown, hts⟩ (qX8_goes l dC dI cy y bd H.size oL a1 a2 hk6) (cwV 2 hts gX8_spin_X8_goes rfl rfl rfl (by decide +kernel) ⟨Nat.le_of_ble_eq_true rfl, Nat.le_of_ble_eq_true rfl⟩) (pV hK hP hD hk (q0 := 0) rfl rfl) rfl rfl hl.1 rfl (lv_room (Nat.le_of_ble_eq_true rfl)) dX8_spin_58 ⟨Nat.le_of_ble_eq_true rfl, Nat.le_of_ble_eq_true rfl⟩) hD hS hA (fun r u H locs hw hP hD hS => ?_)
          have hr1 : r = (jX8_goes oL a1 a2).1 := congrArg Prod.fst hw
          have hu1 : u = (jX8_goes oL a1 a2).2 := congrArg Prod.snd hw
          rw [hu1] at hP hD
          rw [hr1]
          refine lv_if_ne (tgt := 75) hx hb dX8_spin_61 (by decide) (fun c7 => ?_) (fun c7 => ?_)
          · skip
            rw [if_neg c7] at hJ
            rw [if_neg c7] at hV
            refine lv_iinc (v := (v5 + (1 : Int32))) (lv' := [(5, .int (v5 + (1 : Int32))), (0, .ref y), (1, .int a1), (2, .long a2), (4, .int a4)]) hx hb dX8_spin_75 hl (k := 0) rfl (by first | rfl | decide) (by decide) rfl (fun ls hl => ?_)
            refine lv_goto (tgt := 48) hx hb dX8_spin_78 (by decide) ?_
            exact ih n _ _ ((v5 + (1 : Int32)), (jX8_goes oL a1 a2).2, ls) rfl ⟨lv_sub hl [0, 1, 2, 3, 4] rfl, hP, hD, hS, hJ, hV⟩
          · skip
            rw [if_pos c7] at hJ
            rw [if_pos c7] at hV
            refine lv_aload_n hx hb dX8_spin_64 rfl (lv_at hl 1 rfl) ?_
            refine lv_bipush (v := (-15 : Int32)) hx hb dX8_spin_65 (by decide) ?_
            obtain ⟨hk8, hV⟩ := hV
            refine cl_i (va_runV (As := [.int (-15 : Int32)]) (rest := []) ⟨hx, hb, hml, hown, hts⟩ (qX8_fails l dC dI cy y bd H.size ((jX8_goes oL a1 a2).2) (-15 : Int32) hk8) (cwV 1 hts gX8_spin_X8_fails rfl rfl rfl (by decide +kernel) ⟨Nat.le_of_ble_eq_true rfl, Nat.le_of_ble_eq_true rfl⟩) (pV hK hP hD hk (q0 := 0) rfl rfl) rfl rfl hl.1 rfl (lv_room (Nat.le_of_ble_eq_true rfl)) dX8_spin_67 ⟨Nat.le_of_ble_eq_true rfl, Nat.le_of_ble_eq_true rfl⟩) hD hS hA (fun r u H locs hw hP hD hS => ?_)
            have hr1 : r = (jX8_fails ((jX8_goes oL a1 a2).2) (-15 : Int32)).1 := congrArg Prod.fst hw
            have hu1 : u = (jX8_fails ((jX8_goes oL a1 a2).2) (-15 : Int32)).2 := congrArg Prod.snd hw
            rw [hu1] at hP hD
            rw [hr1]
            refine lv_topi (fun y9 ey9 => ?_)
            rw [← ey9] at hJ
            rw [jX8_spin_y9] at hJ
            rw [← ey9] at hV
            rw [sX8_spin_y9] at hV
            have hV := hV.2
            refine lv_istore (lv' := [(6, .int y9), (5, .int v5), (0, .ref y), (1, .int a1), (2, .long a2), (4, .int a4)]) hx hb dX8_spin_70 hl (by decide) rfl (fun ls hl => ?_)
            refine lv_iload hx hb dX8_spin_72 (lv_at hl 1 rfl) ?_
            exact W.iret hx hb hr (fun t ht hW => ⟨⟨_, _, rfl, hJ.trans hE.symm, by rw [ht]; exact hP, va_K.moved hW.alike hK, hD⟩, hS.F ht⟩) hS.2.2 dX8_spin_74
      · skip
        rw [if_pos c4] at hJ
        rw [if_pos c4] at hV
        refine lv_bipush (v := (-102 : Int32)) hx hb dX8_spin_37 (by decide) ?_
        exact W.iret hx hb hr (fun t ht hW => ⟨⟨_, _, rfl, hJ.trans hE.symm, by rw [ht]; exact hP, va_K.moved hW.alike hK, hD⟩, hS.F ht⟩) hS.2.2 dX8_spin_39
  · skip
    rw [if_pos c1] at hJ
    rw [if_pos c1] at hV
    refine lv_bipush (v := (-101 : Int32)) hx hb dX8_spin_8 (by decide) ?_
    exact W.iret hx hb hr (fun t ht hW => ⟨⟨_, _, rfl, hJ.trans hE.symm, by rw [ht]; exact hP, va_K.moved hW.alike hK, hD⟩, hS.F ht⟩) hS.2.2 dX8_spin_10
def jX8_log_o14 (o : Ms) (a1 : Int32) (a2 : Int32) (a3 : Int32) (y4 : Int32) (v4 : Int32) (oL : Ms) (y6 : UInt32) (y10 : UInt64) (rec_ : Int32 → Ms → (Int32 × Ms)) (o14 : Ms) : Int32 × Ms := (rec_ (v4 + (1 : Int32)) o14)
def sX8_log_o14 (o : Ms) (a1 : Int32) (a2 : Int32) (a3 : Int32) (y4 : Int32) (v4 : Int32) (oL : Ms) (y6 : UInt32) (y10 : UInt64) (srec_ : Int32 → Ms → Prop) (o14 : Ms) : Prop := True ∧ (srec_ (v4 + (1 : Int32)) o14)
def jX8_log_y10 (o : Ms) (a1 : Int32) (a2 : Int32) (a3 : Int32) (y4 : Int32) (v4 : Int32) (oL : Ms) (y6 : UInt32) (rec_ : Int32 → Ms → (Int32 × Ms)) (y10 : UInt64) : Int32 × Ms := (jX8_log_o14 o a1 a2 a3 y4 v4 oL y6 y10 rec_ (s_doubles (s_floats oL (vf_upd (m_floats oL) v4.toNatClampNeg y6)) (vf_upd (m_doubles (s_floats oL (vf_upd (m_floats oL) v4.toNatClampNeg y6))) v4.toNatClampNeg y10)))
def sX8_log_y10 (o : Ms) (a1 : Int32) (a2 : Int32) (a3 : Int32) (y4 : Int32) (v4 : Int32) (oL : Ms) (y6 : UInt32) (srec_ : Int32 → Ms → Prop) (y10 : UInt64) : Prop := True ∧ (vp_in v4 128 ∧ (sX8_log_o14 o a1 a2 a3 y4 v4 oL y6 y10 srec_ (s_doubles (s_floats oL (vf_upd (m_floats oL) v4.toNatClampNeg y6)) (vf_upd (m_doubles (s_floats oL (vf_upd (m_floats oL) v4.toNatClampNeg y6))) v4.toNatClampNeg y10))))
def jX8_log_y6 (o : Ms) (a1 : Int32) (a2 : Int32) (a3 : Int32) (y4 : Int32) (v4 : Int32) (oL : Ms) (rec_ : Int32 → Ms → (Int32 × Ms)) (y6 : UInt32) : Int32 × Ms := (jX8_log_y10 o a1 a2 a3 y4 v4 oL y6 rec_ (if a2 = 0 then (m_doubles (s_floats oL (vf_upd (m_floats oL) v4.toNatClampNeg y6)) v4.toNatClampNeg) else FP.dconst0))
def sX8_log_y6 (o : Ms) (a1 : Int32) (a2 : Int32) (a3 : Int32) (y4 : Int32) (v4 : Int32) (oL : Ms) (srec_ : Int32 → Ms → Prop) (y6 : UInt32) : Prop := True ∧ (vp_in v4 128 ∧ ((if a2 = 0 then (vp_in v4 128 ∧ True) else True) ∧ (sX8_log_y10 o a1 a2 a3 y4 v4 oL y6 srec_ (if a2 = 0 then (m_doubles (s_floats oL (vf_upd (m_floats oL) v4.toNatClampNeg y6)) v4.toNatClampNeg) else FP.dconst0))))
def jX8_log_L_S (o : Ms) (a1 : Int32) (a2 : Int32) (a3 : Int32) (y4 : Int32) (rec_ : Int32 → Ms → (Int32 × Ms)) (v4 : Int32) (oL : Ms) : Int32 × Ms := (if (((16 : Int32) * a1) + (16 : Int32)) ≤ v4 then ((1 : Int32), oL) else (jX8_log_y6 o a1 a2 a3 y4 v4 oL rec_ (if a2 = 0 then FP.fconst0 else (m_floats oL v4.toNatClampNeg))))
def jX8_log_L (o : Ms) (a1 : Int32) (a2 : Int32) (a3 : Int32) (y4 : Int32) : Nat → Int32 → Ms → (Int32 × Ms)
  | 0, _, oL => ((0 : Int32), oL)
  | n + 1, v4, oL => jX8_log_L_S o a1 a2 a3 y4 (jX8_log_L o a1 a2 a3 y4 n) v4 oL
theorem jX8_log_L_s (o : Ms) (a1 : Int32) (a2 : Int32) (a3 : Int32) (y4 : Int32) (n : Nat) (v4 : Int32) (oL : Ms) : jX8_log_L o a1 a2 a3 y4 (n + 1) v4 oL = jX8_log_L_S o a1 a2 a3 y4 (jX8_log_L o a1 a2 a3 y4 n) v4 oL := rfl
def sX8_log_L_S (o : Ms) (a1 : Int32) (a2 : Int32) (a3 : Int32) (y4 : Int32) (srec_ : Int32 → Ms → Prop) (v4 : Int32) (oL : Ms) : Prop := True ∧ (if (((16 : Int32) * a1) + (16 : Int32)) ≤ v4 then True else ((if a2 = 0 then True else (vp_in v4 128 ∧ True)) ∧ (sX8_log_y6 o a1 a2 a3 y4 v4 oL srec_ (if a2 = 0 then FP.fconst0 else (m_floats oL v4.toNatClampNeg)))))
def sX8_log_L (o : Ms) (a1 : Int32) (a2 : Int32) (a3 : Int32) (y4 : Int32) : Nat → Int32 → Ms → Prop
  | 0, _, _ => False
  | n + 1, v4, oL => sX8_log_L_S o a1 a2 a3 y4 (sX8_log_L o a1 a2 a3 y4 n) v4 oL
theorem sX8_log_L_s (o : Ms) (a1 : Int32) (a2 : Int32) (a3 : Int32) (y4 : Int32) (n : Nat) (v4 : Int32) (oL : Ms) : sX8_log_L o a1 a2 a3 y4 (n + 1) v4 oL = sX8_log_L_S o a1 a2 a3 y4 (sX8_log_L o a1 a2 a3 y4 n) v4 oL := rfl
def jX8_log_y4 (o : Ms) (a1 : Int32) (a2 : Int32) (a3 : Int32) (y4 : Int32) : Int32 × Ms := (jX8_log_L o a1 a2 a3 y4 64 y4 (s_many o (upd (m_many o) (jX8_rowOf a1 a2).toNatClampNeg a3)))
def sX8_log_y4 (o : Ms) (a1 : Int32) (a2 : Int32) (a3 : Int32) (y4 : Int32) : Prop := True ∧ (sX8_log_L o a1 a2 a3 y4 64 y4 (s_many o (upd (m_many o) (jX8_rowOf a1 a2).toNatClampNeg a3)))
def jX8_log (o : Ms) (a1 : Int32) (a2 : Int32) (a3 : Int32) : Int32 × Ms := (if (jX8_isLog a1) = 0 then ((-101 : Int32), o) else (if (jX8_in (a3.toInt64) (-1 : Int64) (16 : Int64)) = 0 then ((-102 : Int32), o) else (jX8_log_y4 o a1 a2 a3 ((16 : Int32) * a1))))
def sX8_log (o : Ms) (a1 : Int32) (a2 : Int32) (a3 : Int32) : Prop := True ∧ (if (jX8_isLog a1) = 0 then True else (if (jX8_in (a3.toInt64) (-1 : Int64) (16 : Int64)) = 0 then True else (vp_in (jX8_rowOf a1 a2) 16 ∧ (sX8_log_y4 o a1 a2 a3 ((16 : Int32) * a1)))))
set_option linter.constructorNameAsVariable false in
set_option maxHeartbeats 8000000 in
set_option maxRecDepth 100000 in
theorem qX8_log (l : Launch) (dC : Nat → ClassId) (dI : Nat → Nat → Nat) (cy : Nat → ClassId) (y : Nat) (bd : Nat → Nat) (sz : Nat) (o : Ms) (a1 : Int32) (a2 : Int32) (a3 : Int32) (hV : sX8_log o a1 a2 a3) : Met l yX8_log wsX8_log ({ frames := 2, cells := 0, slots := 0, locals := 45 }) (va_Pc [.ref y, .int a1, .int a2, .int a3] (wI (dC, dI) (tyA cy) (WM cy y bd o) sz)) (va_Qi (fun r u => (r, u) = jX8_log o a1 a2 a3) (fun u t => wO (dC, dI) (tyA cy) (va_A (WM cy y bd o) sz) (WM cy y bd u) t) (va_A (WM cy y bd o) sz)) 0 0 (va_A (WM cy y bd o) sz) := by
  refine Met.ofW (cc := cX8_log) (maxL := 5) (ret := some .int) (by decide) rfl ?_
  intro p e s m args below meth c s₁ B hml hv
  obtain ⟨rfl, hsz, hP, hK, hD0, hk⟩ := hv
  have hx := B.exec
  have hb := B.bytes
  have hr := B.returns
  have hts := atoms_spec (ws := wsX8_log) B.pre
  have hown : s.vm.findClass RX8 = some m.cls := findClass_of_methodNamed B.named
  have hlocks := B.notSynchronized
  subst hsz
  have hD := hD0.self (sz := s.heap.size)
  generalize hAe : va_A (WM cy y bd o) s.heap.size = A at hD ⊢
  have hA : ∀ q : Nat, s.heap.size ≤ q → A q := fun q h => by rw [← hAe]; exact Or.inr h
  obtain ⟨H, hHe⟩ : ∃ H, s.heap = H := ⟨_, rfl⟩
  have hP : va_P (dC, dI) vwCl (WM cy y bd o) H := by rw [← hHe]; exact hP
  have hS : va_S A s.heap H [] := by rw [← hHe]; exact va_S.rf
  rw [w_heap hHe]
  have hi_wsX80 : ∀ w ∈ wsX80, w ∈ wsX8_log := fun _ h => List.mem_cons_of_mem _ (List.mem_append_right _ h)
  obtain ⟨JR, hE⟩ : ∃ q, jX8_log o a1 a2 a3 = q := ⟨_, rfl⟩
  have hJ := hE
  rw [jX8_log] at hJ
  rw [sX8_log] at hV
  have hV := hV.2
  have hl := lv_entry ([.ref y, .int a1, .int a2, .int a3]) (n := 5) (Nat.le_of_ble_eq_true rfl)
  rw [lg_entry_eq]
  generalize (lg_sl ([.ref y, .int a1, .int a2, .int a3]) ++ List.replicate (5 - (lg_sl ([.ref y, .int a1, .int a2, .int a3])).length) Slot.unset).toArray = ls at hl ⊢
  have hl : lv_has ls 5 [(0, .ref y), (1, .int a1), (2, .int a2), (3, .int a3)] := hl
  refine lv_iload_n hx hb dX8_log_0 rfl (lv_at hl 1 rfl) ?_
  refine vp_callSi (W.runS (As := [.int a1]) (rest := []) ⟨hx, hb, hml, hown, hts⟩ (qX8_isLog l a1) (va_cwS 1 hts gX8_log_X8_isLog rfl rfl rfl (by decide +kernel) ⟨Nat.le_of_ble_eq_true rfl, Nat.le_of_ble_eq_true rfl⟩) ⟨fun _ _ _ _ q => q, fun U hU hW => rfl⟩ rfl rfl hl.1 rfl (lv_room (Nat.le_of_ble_eq_true rfl)) dX8_log_1 ⟨Nat.le_of_ble_eq_true rfl, Nat.le_of_ble_eq_true rfl⟩) (fun r hq9 => ?_)
  rw [hq9]
  refine lv_if_ne (tgt := 10) hx hb dX8_log_4 (by decide) (fun c1 => ?_) (fun c1 => ?_)
  · skip
    rw [if_neg c1] at hJ
    rw [if_neg c1] at hV
    refine lv_iload_n hx hb dX8_log_10 rfl (lv_at hl 3 rfl) ?_
    refine lv_i2l (v := a3.toInt64) hx hb dX8_log_11 rfl ?_
    refine lv_ldc2 (v := (-1 : Int64)) hx hb hown (hts (.constantLong RX8 191 (-1)) (by decide +kernel)) dX8_log_12 ?_
    refine lv_ldc2 (v := (16 : Int64)) hx hb hown (hts (.constantLong RX8 193 (16)) (by decide +kernel)) dX8_log_15 ?_
    refine vp_callSi (W.runS (As := [.long (a3.toInt64), .long (-1 : Int64), .long (16 : Int64)]) (rest := []) ⟨hx, hb, hml, hown, hts⟩ (qX8_in l (a3.toInt64) (-1 : Int64) (16 : Int64)) (va_cwS 3 hts gX8_log_X8_in rfl rfl rfl (by decide +kernel) ⟨Nat.le_of_ble_eq_true rfl, Nat.le_of_ble_eq_true rfl⟩) ⟨fun _ _ _ _ q => q, fun U hU hW => rfl⟩ rfl rfl hl.1 rfl (lv_room (Nat.le_of_ble_eq_true rfl)) dX8_log_18 ⟨Nat.le_of_ble_eq_true rfl, Nat.le_of_ble_eq_true rfl⟩) (fun r hq9 => ?_)
    rw [hq9]
    refine lv_if_ne (tgt := 27) hx hb dX8_log_21 (by decide) (fun c2 => ?_) (fun c2 => ?_)
    · skip
      rw [if_neg c2] at hJ
      rw [if_neg c2] at hV
      refine lv_aload_n hx hb dX8_log_27 rfl (lv_at hl 0 rfl) ?_
      refine va_get (D := (dC, dI)) (ci := 6) (v := .ref (bd 12)) (C := RX8) (T := TX8) (N := 20) (fs := wm_f bd o) hx hb hts hi_wsX80 hown hK hP 0 rfl rfl 14 (by decide) (hts (.fieldLink RX8 50 "OrreryDialsModel" "many" "[I") (by decide +kernel)) (fun _ h9 => h9) rfl dX8_log_28 ?_
      refine lv_iload_n hx hb dX8_log_31 rfl (lv_at hl 1 rfl) ?_
      refine lv_iload_n hx hb dX8_log_32 rfl (lv_at hl 2 rfl) ?_
      refine vp_callSi (W.runS (As := [.int a1, .int a2]) (rest := [.ref (bd 12)]) ⟨hx, hb, hml, hown, hts⟩ (qX8_rowOf l a1 a2) (va_cwS 2 hts gX8_log_X8_rowOf rfl rfl rfl (by decide +kernel) ⟨Nat.le_of_ble_eq_true rfl, Nat.le_of_ble_eq_true rfl⟩) ⟨fun _ _ _ _ q => q, fun U hU hW => rfl⟩ rfl rfl hl.1 rfl (lv_room (Nat.le_of_ble_eq_true rfl)) dX8_log_33 ⟨Nat.le_of_ble_eq_true rfl, Nat.le_of_ble_eq_true rfl⟩) (fun r hq9 => ?_)
      rw [hq9]
      refine lv_iload_n hx hb dX8_log_36 rfl (lv_at hl 3 rfl) ?_
      obtain ⟨hk3, hV⟩ := hV
      refine va_iast hx hb hK hP hD hS 13 0 rfl rfl hk3 dX8_log_37 (fun H locs hP hD hS => ?_)
      rw [wm_a_many] at hP hD
      refine lv_bipush (v := (16 : Int32)) hx hb dX8_log_38 (by decide) ?_
      refine lv_iload_n hx hb dX8_log_40 rfl (lv_at hl 1 rfl) ?_
      refine lv_imul hx hb dX8_log_41 ?_
      refine lv_topi (fun y4 ey4 => ?_)
      rw [← ey4] at hJ
      rw [jX8_log_y4] at hJ
      rw [← ey4] at hV
      rw [sX8_log_y4] at hV
      have hV := hV.2
      refine lv_istore (lv' := [(4, .int y4), (0, .ref y), (1, .int a1), (2, .int a2), (3, .int a3)]) hx hb dX8_log_42 hl (by decide) rfl (fun ls hl => ?_)
      refine jn_loopH (α := Int32 × Ms × Array Slot) (P := fun q => F0 m 44 q.2.2 []) (I := fun n H locs q => lv_has q.2.2 5 [(4, .int q.1), (0, .ref y), (1, .int a1), (2, .int a2), (3, .int a3)] ∧ va_P (dC, dI) vwCl (WM cy y bd q.2.1) H ∧ va_D A (WM cy y bd q.2.1) ∧ va_S A s.heap H locs ∧ jX8_log_L o a1 a2 a3 y4 n q.1 q.2.1 = JR ∧ sX8_log_L o a1 a2 a3 y4 n q.1 q.2.1) ?_ 64 _ _ (y4, (s_many o (upd (m_many o) (jX8_rowOf a1 a2).toNatClampNeg a3)), ls) ⟨hl, hP, hD, hS, hJ, hV⟩
      intro n H locs ⟨v4, oL, ls⟩ ⟨hl, hP, hD, hS, hJ, hV⟩ ih
      have hl : lv_has ls 5 [(4, .int v4), (0, .ref y), (1, .int a1), (2, .int a2), (3, .int a3)] := hl
      have hP : va_P (dC, dI) vwCl (WM cy y bd oL) H := hP
      have hD : va_D A (WM cy y bd oL) := hD
      have hJ : jX8_log_L o a1 a2 a3 y4 n v4 oL = JR := hJ
      have hV : sX8_log_L o a1 a2 a3 y4 n v4 oL := hV
      rcases n with _ | n
      · exact hV.elim
      rw [jX8_log_L_s, jX8_log_L_S] at hJ
      rw [sX8_log_L_s, sX8_log_L_S] at hV
      have hV := hV.2
      refine lv_iload hx hb dX8_log_44 (lv_at hl 0 rfl) ?_
      refine lv_bipush (v := (16 : Int32)) hx hb dX8_log_46 (by decide) ?_
      refine lv_iload_n hx hb dX8_log_48 rfl (lv_at hl 2 rfl) ?_
      refine lv_imul hx hb dX8_log_49 ?_
      refine lv_bipush (v := (16 : Int32)) hx hb dX8_log_50 (by decide) ?_
      refine lv_iadd hx hb dX8_log_52 ?_
      refine lv_icmp_ge (tgt := 106) hx hb dX8_log_53 (by decide) (fun c5 => ?_) (fun c5 => ?_)
      · skip
        rw [if_pos c5] at hJ
        rw [if_pos c5] at hV
        refine lv_iconst (v := (1 : Int32)) hx hb dX8_log_106 (by decide) ?_
        exact W.iret hx hb hr (fun t ht hW => ⟨⟨_, _, rfl, hJ.trans hE.symm, by rw [ht]; exact hP, va_K.moved hW.alike hK, hD⟩, hS.F ht⟩) hS.2.2 dX8_log_107
      · skip
        rw [if_neg c5] at hJ
        rw [if_neg c5] at hV
        refine lv_aload_n hx hb dX8_log_56 rfl (lv_at hl 1 rfl) ?_
        refine va_get (D := (dC, dI)) (ci := 6) (v := .ref (bd 13)) (C := RX8) (T := TX8) (N := 20) (fs := wm_f bd oL) hx hb hts hi_wsX80 hown hK hP 0 rfl rfl 15 (by decide) (hts (.fieldLink RX8 53 "OrreryDialsModel" "floats" "[F") (by decide +kernel)) (fun _ h9 => h9) rfl dX8_log_57 ?_
        refine lv_iload hx hb dX8_log_60 (lv_at hl 0 rfl) ?_
        refine lv_iload_n hx hb dX8_log_62 rfl (lv_at hl 3 rfl) ?_
        obtain ⟨hv, hV⟩ := hV
        refine jn_f (J := 77) (ls := ls) (v := (if a2 = 0 then FP.fconst0 else (m_floats oL v4.toNatClampNeg))) (rest := [.int v4, .ref (bd 13)]) ?_ (fun y6 ey6 => ?_)
        · intro hj
          refine lv_if_eq (tgt := 76) hx hb dX8_log_63 (by decide) (fun c7 => ?_) (fun c7 => ?_)
          · skip
            rw [if_pos c7] at hj
            try rw [if_pos c7] at hv
            refine lv_fconst0 hx hb dX8_log_76 ?_
            exact hj
          · skip
            rw [if_neg c7] at hj
            try rw [if_neg c7] at hv
            refine lv_aload_n hx hb dX8_log_66 rfl (lv_at hl 1 rfl) ?_
            refine va_get (D := (dC, dI)) (ci := 6) (v := .ref (bd 13)) (C := RX8) (T := TX8) (N := 20) (fs := wm_f bd oL) hx hb hts hi_wsX80 hown hK hP 0 rfl rfl 15 (by decide) (hts (.fieldLink RX8 53 "OrreryDialsModel" "floats" "[F") (by decide +kernel)) (fun _ h9 => h9) rfl dX8_log_67 ?_
            refine lv_iload hx hb dX8_log_70 (lv_at hl 0 rfl) ?_
            obtain ⟨hk8, hv⟩ := hv
            refine va_fald hx hb hK hP 14 3 rfl rfl hk8 dX8_log_72 ?_
            refine lv_goto (tgt := 77) hx hb dX8_log_73 (by decide) ?_
            exact hj
        rw [← ey6] at hJ
        rw [jX8_log_y6] at hJ
        rw [← ey6] at hV
        rw [sX8_log_y6] at hV
        have hV := hV.2
        obtain ⟨hk9, hV⟩ := hV
        refine va_fast hx hb hK hP hD hS 14 3 rfl rfl hk9 dX8_log_77 (fun H locs hP hD hS => ?_)
        rw [wm_a_floats] at hP hD
        refine lv_aload_n hx hb dX8_log_78 rfl (lv_at hl 1 rfl) ?_
        refine va_get (D := (dC, dI)) (ci := 6) (v := .ref (bd 14)) (C := RX8) (T := TX8) (N := 20) (fs := wm_f bd (s_floats oL (vf_upd (m_floats oL) v4.toNatClampNeg y6))) hx hb hts hi_wsX80 hown hK hP 0 rfl rfl 16 (by decide) (hts (.fieldLink RX8 56 "OrreryDialsModel" "doubles" "[D") (by decide +kernel)) (fun _ h9 => h9) rfl dX8_log_79 ?_
        refine lv_iload hx hb dX8_log_82 (lv_at hl 0 rfl) ?_
        refine lv_iload_n hx hb dX8_log_84 rfl (lv_at hl 3 rfl) ?_
        obtain ⟨hv, hV⟩ := hV
        refine jn_d (J := 99) (ls := ls) (v := (if a2 = 0 then (m_doubles (s_floats oL (vf_upd (m_floats oL) v4.toNatClampNeg y6)) v4.toNatClampNeg) else FP.dconst0)) (rest := [.int v4, .ref (bd 14)]) ?_ (fun y10 ey10 => ?_)
        · intro hj
          refine lv_if_eq (tgt := 92) hx hb dX8_log_85 (by decide) (fun c11 => ?_) (fun c11 => ?_)
          · skip
            rw [if_pos c11] at hj
            try rw [if_pos c11] at hv
            refine lv_aload_n hx hb dX8_log_92 rfl (lv_at hl 1 rfl) ?_
            refine va_get (D := (dC, dI)) (ci := 6) (v := .ref (bd 14)) (C := RX8) (T := TX8) (N := 20) (fs := wm_f bd (s_floats oL (vf_upd (m_floats oL) v4.toNatClampNeg y6))) hx hb hts hi_wsX80 hown hK hP 0 rfl rfl 16 (by decide) (hts (.fieldLink RX8 56 "OrreryDialsModel" "doubles" "[D") (by decide +kernel)) (fun _ h9 => h9) rfl dX8_log_93 ?_
            refine lv_iload hx hb dX8_log_96 (lv_at hl 0 rfl) ?_
            obtain ⟨hk12, hv⟩ := hv
            refine va_dald hx hb hK hP 15 4 rfl rfl hk12 dX8_log_98 ?_
            exact hj
          · skip
            rw [if_neg c11] at hj
            try rw [if_neg c11] at hv
            refine lv_dconst0 hx hb dX8_log_88 ?_
            refine lv_goto (tgt := 99) hx hb dX8_log_89 (by decide) ?_
            exact hj
        rw [← ey10] at hJ
        rw [jX8_log_y10] at hJ
        rw [← ey10] at hV
        rw [sX8_log_y10] at hV
        have hV := hV.2
        obtain ⟨hk13, hV⟩ := hV
        refine va_dast hx hb hK hP hD hS 15 4 rfl rfl hk13 dX8_log_99 (fun H locs hP hD hS => ?_)
        rw [wm_a_doubles] at hP hD
        obtain ⟨o14, eo14⟩ : ∃ z, z = (s_doubles (s_floats oL (vf_upd (m_floats oL) v4.toNatClampNeg y6)) (vf_upd (m_doubles (s_floats oL (vf_upd (m_floats oL) v4.toNatClampNeg y6))) v4.toNatClampNeg y10)) := ⟨_, rfl⟩
        rw [← eo14] at hP hD hJ hV
        rw [jX8_log_o14] at hJ
        rw [sX8_log_o14] at hV
        have hV := hV.2
        refine lv_iinc (v := (v4 + (1 : Int32))) (lv' := [(4, .int (v4 + (1 : Int32))), (0, .ref y), (1, .int a1), (2, .int a2), (3, .int a3)]) hx hb dX8_log_100 hl (k := 0) rfl (by first | rfl | decide) (by decide) rfl (fun ls hl => ?_)
        refine lv_goto (tgt := 44) hx hb dX8_log_103 (by decide) ?_
        exact ih n _ _ ((v4 + (1 : Int32)), o14, ls) rfl ⟨lv_sub hl [0, 1, 2, 3, 4] rfl, hP, hD, hS, hJ, hV⟩
    · skip
      rw [if_pos c2] at hJ
      rw [if_pos c2] at hV
      refine lv_bipush (v := (-102 : Int32)) hx hb dX8_log_24 (by decide) ?_
      exact W.iret hx hb hr (fun t ht hW => ⟨⟨_, _, rfl, hJ.trans hE.symm, by rw [ht]; exact hP, va_K.moved hW.alike hK, hD⟩, hS.F ht⟩) hS.2.2 dX8_log_26
  · skip
    rw [if_pos c1] at hJ
    rw [if_pos c1] at hV
    refine lv_bipush (v := (-101 : Int32)) hx hb dX8_log_7 (by decide) ?_
    exact W.iret hx hb hr (fun t ht hW => ⟨⟨_, _, rfl, hJ.trans hE.symm, by rw [ht]; exact hP, va_K.moved hW.alike hK, hD⟩, hS.F ht⟩) hS.2.2 dX8_log_9
def jX8_sift_y15 (o : Ms) (a1 : Int32) (a2 : Int32) (a3 : Int64) (y3 : Int32) (y6 : UInt32) (y9 : UInt64) (y12 : Int32) (v6 : UInt32) (v7 : UInt64) (v9 : Int32) (v10 : Int32) (oL : Ms) (rec_ : UInt32 → UInt64 → Int32 → Int32 → Ms → (Int32 × Ms)) (y15 : Int64) : Int32 × Ms := ((jX8_done (s_seen oL y15) v9).1, (jX8_done (s_seen oL y15) v9).2)
def sX8_sift_y15 (o : Ms) (a1 : Int32) (a2 : Int32) (a3 : Int64) (y3 : Int32) (y6 : UInt32) (y9 : UInt64) (y12 : Int32) (v6 : UInt32) (v7 : UInt64) (v9 : Int32) (v10 : Int32) (oL : Ms) (srec_ : UInt32 → UInt64 → Int32 → Int32 → Ms → Prop) (y15 : Int64) : Prop := True ∧ True
def jX8_sift_y30 (o : Ms) (a1 : Int32) (a2 : Int32) (a3 : Int64) (y3 : Int32) (y6 : UInt32) (y9 : UInt64) (y12 : Int32) (v6 : UInt32) (v7 : UInt64) (v9 : Int32) (v10 : Int32) (oL : Ms) (y17 : Int32) (y23 : Int32) (y25 : Int32) (rec_ : UInt32 → UInt64 → Int32 → Int32 → Ms → (Int32 × Ms)) (y30 : UInt32) : Int32 × Ms := (rec_ y30 v7 y25 (v10 + (1 : Int32)) oL)
def sX8_sift_y30 (o : Ms) (a1 : Int32) (a2 : Int32) (a3 : Int64) (y3 : Int32) (y6 : UInt32) (y9 : UInt64) (y12 : Int32) (v6 : UInt32) (v7 : UInt64) (v9 : Int32) (v10 : Int32) (oL : Ms) (y17 : Int32) (y23 : Int32) (y25 : Int32) (srec_ : UInt32 → UInt64 → Int32 → Int32 → Ms → Prop) (y30 : UInt32) : Prop := True ∧ (srec_ y30 v7 y25 (v10 + (1 : Int32)) oL)
def jX8_sift_y35 (o : Ms) (a1 : Int32) (a2 : Int32) (a3 : Int64) (y3 : Int32) (y6 : UInt32) (y9 : UInt64) (y12 : Int32) (v6 : UInt32) (v7 : UInt64) (v9 : Int32) (v10 : Int32) (oL : Ms) (y17 : Int32) (y23 : Int32) (y25 : Int32) (rec_ : UInt32 → UInt64 → Int32 → Int32 → Ms → (Int32 × Ms)) (y35 : UInt32) : Int32 × Ms := (rec_ y35 v7 y25 (v10 + (1 : Int32)) oL)
def sX8_sift_y35 (o : Ms) (a1 : Int32) (a2 : Int32) (a3 : Int64) (y3 : Int32) (y6 : UInt32) (y9 : UInt64) (y12 : Int32) (v6 : UInt32) (v7 : UInt64) (v9 : Int32) (v10 : Int32) (oL : Ms) (y17 : Int32) (y23 : Int32) (y25 : Int32) (srec_ : UInt32 → UInt64 → Int32 → Int32 → Ms → Prop) (y35 : UInt32) : Prop := True ∧ (srec_ y35 v7 y25 (v10 + (1 : Int32)) oL)
def jX8_sift_y38 (o : Ms) (a1 : Int32) (a2 : Int32) (a3 : Int64) (y3 : Int32) (y6 : UInt32) (y9 : UInt64) (y12 : Int32) (v6 : UInt32) (v7 : UInt64) (v9 : Int32) (v10 : Int32) (oL : Ms) (y17 : Int32) (y23 : Int32) (y25 : Int32) (rec_ : UInt32 → UInt64 → Int32 → Int32 → Ms → (Int32 × Ms)) (y38 : UInt64) : Int32 × Ms := (rec_ v6 y38 y25 (v10 + (1 : Int32)) oL)
def sX8_sift_y38 (o : Ms) (a1 : Int32) (a2 : Int32) (a3 : Int64) (y3 : Int32) (y6 : UInt32) (y9 : UInt64) (y12 : Int32) (v6 : UInt32) (v7 : UInt64) (v9 : Int32) (v10 : Int32) (oL : Ms) (y17 : Int32) (y23 : Int32) (y25 : Int32) (srec_ : UInt32 → UInt64 → Int32 → Int32 → Ms → Prop) (y38 : UInt64) : Prop := True ∧ (srec_ v6 y38 y25 (v10 + (1 : Int32)) oL)
def jX8_sift_y25 (o : Ms) (a1 : Int32) (a2 : Int32) (a3 : Int64) (y3 : Int32) (y6 : UInt32) (y9 : UInt64) (y12 : Int32) (v6 : UInt32) (v7 : UInt64) (v9 : Int32) (v10 : Int32) (oL : Ms) (y17 : Int32) (y23 : Int32) (rec_ : UInt32 → UInt64 → Int32 → Int32 → Ms → (Int32 × Ms)) (y25 : Int32) : Int32 × Ms := (if y17 = 0 then (if y17 = 0 then (rec_ v6 v7 y25 (v10 + (1 : Int32)) oL) else (jX8_sift_y30 o a1 a2 a3 y3 y6 y9 y12 v6 v7 v9 v10 oL y17 y23 y25 rec_ (FP.frem v6 (m_floats oL v10.toNatClampNeg)))) else (if a2 = 0 then (if y17 = 0 then (rec_ v6 v7 y25 (v10 + (1 : Int32)) oL) else (jX8_sift_y35 o a1 a2 a3 y3 y6 y9 y12 v6 v7 v9 v10 oL y17 y23 y25 rec_ (FP.frem v6 (m_floats oL v10.toNatClampNeg)))) else (jX8_sift_y38 o a1 a2 a3 y3 y6 y9 y12 v6 v7 v9 v10 oL y17 y23 y25 rec_ (FP.drem v7 (m_doubles oL v10.toNatClampNeg)))))
def sX8_sift_y25 (o : Ms) (a1 : Int32) (a2 : Int32) (a3 : Int64) (y3 : Int32) (y6 : UInt32) (y9 : UInt64) (y12 : Int32) (v6 : UInt32) (v7 : UInt64) (v9 : Int32) (v10 : Int32) (oL : Ms) (y17 : Int32) (y23 : Int32) (srec_ : UInt32 → UInt64 → Int32 → Int32 → Ms → Prop) (y25 : Int32) : Prop := True ∧ (if y17 = 0 then (if y17 = 0 then (srec_ v6 v7 y25 (v10 + (1 : Int32)) oL) else (vp_in v10 128 ∧ (vf_n32 (FP.frem v6 (m_floats oL v10.toNatClampNeg)) ∧ (sX8_sift_y30 o a1 a2 a3 y3 y6 y9 y12 v6 v7 v9 v10 oL y17 y23 y25 srec_ (FP.frem v6 (m_floats oL v10.toNatClampNeg)))))) else (if a2 = 0 then (if y17 = 0 then (srec_ v6 v7 y25 (v10 + (1 : Int32)) oL) else (vp_in v10 128 ∧ (vf_n32 (FP.frem v6 (m_floats oL v10.toNatClampNeg)) ∧ (sX8_sift_y35 o a1 a2 a3 y3 y6 y9 y12 v6 v7 v9 v10 oL y17 y23 y25 srec_ (FP.frem v6 (m_floats oL v10.toNatClampNeg)))))) else (vp_in v10 128 ∧ (vf_n64 (FP.drem v7 (m_doubles oL v10.toNatClampNeg)) ∧ (sX8_sift_y38 o a1 a2 a3 y3 y6 y9 y12 v6 v7 v9 v10 oL y17 y23 y25 srec_ (FP.drem v7 (m_doubles oL v10.toNatClampNeg)))))))
def jX8_sift_y23 (o : Ms) (a1 : Int32) (a2 : Int32) (a3 : Int64) (y3 : Int32) (y6 : UInt32) (y9 : UInt64) (y12 : Int32) (v6 : UInt32) (v7 : UInt64) (v9 : Int32) (v10 : Int32) (oL : Ms) (y17 : Int32) (rec_ : UInt32 → UInt64 → Int32 → Int32 → Ms → (Int32 × Ms)) (y23 : Int32) : Int32 × Ms := (jX8_sift_y25 o a1 a2 a3 y3 y6 y9 y12 v6 v7 v9 v10 oL y17 y23 rec_ (v9 + y23))
def sX8_sift_y23 (o : Ms) (a1 : Int32) (a2 : Int32) (a3 : Int64) (y3 : Int32) (y6 : UInt32) (y9 : UInt64) (y12 : Int32) (v6 : UInt32) (v7 : UInt64) (v9 : Int32) (v10 : Int32) (oL : Ms) (y17 : Int32) (srec_ : UInt32 → UInt64 → Int32 → Int32 → Ms → Prop) (y23 : Int32) : Prop := True ∧ (sX8_sift_y25 o a1 a2 a3 y3 y6 y9 y12 v6 v7 v9 v10 oL y17 y23 srec_ (v9 + y23))
def jX8_sift_y17 (o : Ms) (a1 : Int32) (a2 : Int32) (a3 : Int64) (y3 : Int32) (y6 : UInt32) (y9 : UInt64) (y12 : Int32) (v6 : UInt32) (v7 : UInt64) (v9 : Int32) (v10 : Int32) (oL : Ms) (rec_ : UInt32 → UInt64 → Int32 → Int32 → Ms → (Int32 × Ms)) (y17 : Int32) : Int32 × Ms := (jX8_sift_y23 o a1 a2 a3 y3 y6 y9 y12 v6 v7 v9 v10 oL y17 rec_ (if y17 = 0 then (0 : Int32) else (1 : Int32)))
def sX8_sift_y17 (o : Ms) (a1 : Int32) (a2 : Int32) (a3 : Int64) (y3 : Int32) (y6 : UInt32) (y9 : UInt64) (y12 : Int32) (v6 : UInt32) (v7 : UInt64) (v9 : Int32) (v10 : Int32) (oL : Ms) (srec_ : UInt32 → UInt64 → Int32 → Int32 → Ms → Prop) (y17 : Int32) : Prop := True ∧ (sX8_sift_y23 o a1 a2 a3 y3 y6 y9 y12 v6 v7 v9 v10 oL y17 srec_ (if y17 = 0 then (0 : Int32) else (1 : Int32)))
def jX8_sift_L_S (o : Ms) (a1 : Int32) (a2 : Int32) (a3 : Int64) (y3 : Int32) (y6 : UInt32) (y9 : UInt64) (y12 : Int32) (rec_ : UInt32 → UInt64 → Int32 → Int32 → Ms → (Int32 × Ms)) (v6 : UInt32) (v7 : UInt64) (v9 : Int32) (v10 : Int32) (oL : Ms) : Int32 × Ms := (if (((16 : Int32) * a1) + (m_many oL y3.toNatClampNeg)) ≤ v10 then (jX8_sift_y15 o a1 a2 a3 y3 y6 y9 y12 v6 v7 v9 v10 oL rec_ (if a2 = 0 then ((jJxf58ca_floatToIntBits_5c35a v6).toInt64) else (jJxe99ae_doubleToLongBits_ccdee v7))) else (jX8_sift_y17 o a1 a2 a3 y3 y6 y9 y12 v6 v7 v9 v10 oL rec_ (if a2 = 0 then (if (Op.cmpValue (FP.fcmp (m_floats oL v10.toNatClampNeg) FP.fconst0) .l) = 0 then (0 : Int32) else (1 : Int32)) else (if (Op.cmpValue (FP.dcmp (m_doubles oL v10.toNatClampNeg) FP.dconst0) .l) = 0 then (0 : Int32) else (1 : Int32)))))
def jX8_sift_L (o : Ms) (a1 : Int32) (a2 : Int32) (a3 : Int64) (y3 : Int32) (y6 : UInt32) (y9 : UInt64) (y12 : Int32) : Nat → UInt32 → UInt64 → Int32 → Int32 → Ms → (Int32 × Ms)
  | 0, _, _, _, _, oL => ((0 : Int32), oL)
  | n + 1, v6, v7, v9, v10, oL => jX8_sift_L_S o a1 a2 a3 y3 y6 y9 y12 (jX8_sift_L o a1 a2 a3 y3 y6 y9 y12 n) v6 v7 v9 v10 oL
theorem jX8_sift_L_s (o : Ms) (a1 : Int32) (a2 : Int32) (a3 : Int64) (y3 : Int32) (y6 : UInt32) (y9 : UInt64) (y12 : Int32) (n : Nat) (v6 : UInt32) (v7 : UInt64) (v9 : Int32) (v10 : Int32) (oL : Ms) : jX8_sift_L o a1 a2 a3 y3 y6 y9 y12 (n + 1) v6 v7 v9 v10 oL = jX8_sift_L_S o a1 a2 a3 y3 y6 y9 y12 (jX8_sift_L o a1 a2 a3 y3 y6 y9 y12 n) v6 v7 v9 v10 oL := rfl
def sX8_sift_L_S (o : Ms) (a1 : Int32) (a2 : Int32) (a3 : Int64) (y3 : Int32) (y6 : UInt32) (y9 : UInt64) (y12 : Int32) (srec_ : UInt32 → UInt64 → Int32 → Int32 → Ms → Prop) (v6 : UInt32) (v7 : UInt64) (v9 : Int32) (v10 : Int32) (oL : Ms) : Prop := True ∧ (vp_in y3 16 ∧ (if (((16 : Int32) * a1) + (m_many oL y3.toNatClampNeg)) ≤ v10 then (sX8_sift_y15 o a1 a2 a3 y3 y6 y9 y12 v6 v7 v9 v10 oL srec_ (if a2 = 0 then ((jJxf58ca_floatToIntBits_5c35a v6).toInt64) else (jJxe99ae_doubleToLongBits_ccdee v7))) else ((if a2 = 0 then (vp_in v10 128 ∧ (if (Op.cmpValue (FP.fcmp (m_floats oL v10.toNatClampNeg) FP.fconst0) .l) = 0 then True else True)) else (vp_in v10 128 ∧ (if (Op.cmpValue (FP.dcmp (m_doubles oL v10.toNatClampNeg) FP.dconst0) .l) = 0 then True else True))) ∧ (sX8_sift_y17 o a1 a2 a3 y3 y6 y9 y12 v6 v7 v9 v10 oL srec_ (if a2 = 0 then (if (Op.cmpValue (FP.fcmp (m_floats oL v10.toNatClampNeg) FP.fconst0) .l) = 0 then (0 : Int32) else (1 : Int32)) else (if (Op.cmpValue (FP.dcmp (m_doubles oL v10.toNatClampNeg) FP.dconst0) .l) = 0 then (0 : Int32) else (1 : Int32)))))))
def sX8_sift_L (o : Ms) (a1 : Int32) (a2 : Int32) (a3 : Int64) (y3 : Int32) (y6 : UInt32) (y9 : UInt64) (y12 : Int32) : Nat → UInt32 → UInt64 → Int32 → Int32 → Ms → Prop
  | 0, _, _, _, _, _ => False
  | n + 1, v6, v7, v9, v10, oL => sX8_sift_L_S o a1 a2 a3 y3 y6 y9 y12 (sX8_sift_L o a1 a2 a3 y3 y6 y9 y12 n) v6 v7 v9 v10 oL
theorem sX8_sift_L_s (o : Ms) (a1 : Int32) (a2 : Int32) (a3 : Int64) (y3 : Int32) (y6 : UInt32) (y9 : UInt64) (y12 : Int32) (n : Nat) (v6 : UInt32) (v7 : UInt64) (v9 : Int32) (v10 : Int32) (oL : Ms) : sX8_sift_L o a1 a2 a3 y3 y6 y9 y12 (n + 1) v6 v7 v9 v10 oL = sX8_sift_L_S o a1 a2 a3 y3 y6 y9 y12 (sX8_sift_L o a1 a2 a3 y3 y6 y9 y12 n) v6 v7 v9 v10 oL := rfl
def jX8_sift_y12 (o : Ms) (a1 : Int32) (a2 : Int32) (a3 : Int64) (y3 : Int32) (y6 : UInt32) (y9 : UInt64) (y12 : Int32) : Int32 × Ms := (jX8_sift_L o a1 a2 a3 y3 y6 y9 y12 64 y6 y9 (0 : Int32) y12 o)
def sX8_sift_y12 (o : Ms) (a1 : Int32) (a2 : Int32) (a3 : Int64) (y3 : Int32) (y6 : UInt32) (y9 : UInt64) (y12 : Int32) : Prop := True ∧ (sX8_sift_L o a1 a2 a3 y3 y6 y9 y12 64 y6 y9 (0 : Int32) y12 o)
def jX8_sift_y9 (o : Ms) (a1 : Int32) (a2 : Int32) (a3 : Int64) (y3 : Int32) (y6 : UInt32) (y9 : UInt64) : Int32 × Ms := (jX8_sift_y12 o a1 a2 a3 y3 y6 y9 ((16 : Int32) * a1))
def sX8_sift_y9 (o : Ms) (a1 : Int32) (a2 : Int32) (a3 : Int64) (y3 : Int32) (y6 : UInt32) (y9 : UInt64) : Prop := True ∧ (sX8_sift_y12 o a1 a2 a3 y3 y6 y9 ((16 : Int32) * a1))
def jX8_sift_y6 (o : Ms) (a1 : Int32) (a2 : Int32) (a3 : Int64) (y3 : Int32) (y6 : UInt32) : Int32 × Ms := (jX8_sift_y9 o a1 a2 a3 y3 y6 (if a2 = 0 then FP.dconst0 else (jX8_doubleOf a3)))
def sX8_sift_y6 (o : Ms) (a1 : Int32) (a2 : Int32) (a3 : Int64) (y3 : Int32) (y6 : UInt32) : Prop := True ∧ ((if a2 = 0 then True else (sX8_doubleOf a3 ∧ True)) ∧ (sX8_sift_y9 o a1 a2 a3 y3 y6 (if a2 = 0 then FP.dconst0 else (jX8_doubleOf a3))))
def jX8_sift_y3 (o : Ms) (a1 : Int32) (a2 : Int32) (a3 : Int64) (y3 : Int32) : Int32 × Ms := (if (m_many o y3.toNatClampNeg) = (-1 : Int32) then ((jX8_fails o (-11 : Int32)).1, (jX8_fails o (-11 : Int32)).2) else (jX8_sift_y6 o a1 a2 a3 y3 (if a2 = 0 then (jX8_floatOf a3) else FP.fconst0)))
def sX8_sift_y3 (o : Ms) (a1 : Int32) (a2 : Int32) (a3 : Int64) (y3 : Int32) : Prop := True ∧ (vp_in y3 16 ∧ (if (m_many o y3.toNatClampNeg) = (-1 : Int32) then (sX8_fails o (-11 : Int32) ∧ True) else ((if a2 = 0 then (sX8_floatOf a3 ∧ True) else True) ∧ (sX8_sift_y6 o a1 a2 a3 y3 (if a2 = 0 then (jX8_floatOf a3) else FP.fconst0)))))
def jX8_sift (o : Ms) (a1 : Int32) (a2 : Int32) (a3 : Int64) : Int32 × Ms := (if (jX8_isLog a1) = 0 then ((-101 : Int32), o) else (if (jX8_isFit a2 a3) = 0 then ((-102 : Int32), o) else (jX8_sift_y3 o a1 a2 a3 (jX8_rowOf a1 a2))))
def sX8_sift (o : Ms) (a1 : Int32) (a2 : Int32) (a3 : Int64) : Prop := True ∧ (if (jX8_isLog a1) = 0 then True else (if (jX8_isFit a2 a3) = 0 then True else (sX8_sift_y3 o a1 a2 a3 (jX8_rowOf a1 a2))))
set_option linter.constructorNameAsVariable false in
set_option maxHeartbeats 8000000 in
set_option maxRecDepth 100000 in
theorem qX8_sift (l : Launch) (dC : Nat → ClassId) (dI : Nat → Nat → Nat) (cy : Nat → ClassId) (y : Nat) (bd : Nat → Nat) (sz : Nat) (o : Ms) (a1 : Int32) (a2 : Int32) (a3 : Int64) (hV : sX8_sift o a1 a2 a3) : Met l yX8_sift wsX8_sift ({ frames := 2, cells := 0, slots := 0, locals := 45 }) (va_Pc [.ref y, .int a1, .int a2, .long a3] (wI (dC, dI) (tyA cy) (WM cy y bd o) sz)) (va_Qi (fun r u => (r, u) = jX8_sift o a1 a2 a3) (fun u t => wO (dC, dI) (tyA cy) (va_A (WM cy y bd o) sz) (WM cy y bd u) t) (va_A (WM cy y bd o) sz)) 0 0 (va_A (WM cy y bd o) sz) := by
  refine Met.ofW (cc := cX8_sift) (maxL := 12) (ret := some .int) (by decide) rfl ?_
  intro p e s m args below meth c s₁ B hml hv
  obtain ⟨rfl, hsz, hP, hK, hD0, hk⟩ := hv
  have hx := B.exec
  have hb := B.bytes
  have hr := B.returns
  have hts := atoms_spec (ws := wsX8_sift) B.pre
  have hown : s.vm.findClass RX8 = some m.cls := findClass_of_methodNamed B.named
  have hlocks := B.notSynchronized
  subst hsz
  have hD := hD0.self (sz := s.heap.size)
  generalize hAe : va_A (WM cy y bd o) s.heap.size = A at hD ⊢
  have hA : ∀ q : Nat, s.heap.size ≤ q → A q := fun q h => by rw [← hAe]; exact Or.inr h
  obtain ⟨H, hHe⟩ : ∃ H, s.heap = H := ⟨_, rfl⟩
  have hP : va_P (dC, dI) vwCl (WM cy y bd o) H := by rw [← hHe]; exact hP
  have hS : va_S A s.heap H [] := by rw [← hHe]; exact va_S.rf
  rw [w_heap hHe]
  have hi_wsX80 : ∀ w ∈ wsX80, w ∈ wsX8_sift := fun _ h => List.mem_cons_of_mem _ (List.mem_append_right _ h)
  obtain ⟨JR, hE⟩ : ∃ q, jX8_sift o a1 a2 a3 = q := ⟨_, rfl⟩
  have hJ := hE
  rw [jX8_sift] at hJ
  rw [sX8_sift] at hV
  have hV := hV.2
  have hl := lv_entry ([.ref y, .int a1, .int a2, .long a3]) (n := 12) (Nat.le_of_ble_eq_true rfl)
  rw [lg_entry_eq]
  generalize (lg_sl ([.ref y, .int a1, .int a2, .long a3]) ++ List.replicate (12 - (lg_sl ([.ref y, .int a1, .int a2, .long a3])).length) Slot.unset).toArray = ls at hl ⊢
  have hl : lv_has ls 12 [(0, .ref y), (1, .int a1), (2, .int a2), (3, .long a3)] := hl
  refine lv_iload_n hx hb dX8_sift_0 rfl (lv_at hl 1 rfl) ?_
  refine vp_callSi (W.runS (As := [.int a1]) (rest := []) ⟨hx, hb, hml, hown, hts⟩ (qX8_isLog l a1) (va_cwS 1 hts gX8_sift_X8_isLog rfl rfl rfl (by decide +kernel) ⟨Nat.le_of_ble_eq_true rfl, Nat.le_of_ble_eq_true rfl⟩) ⟨fun _ _ _ _ q => q, fun U hU hW => rfl⟩ rfl rfl hl.1 rfl (lv_room (Nat.le_of_ble_eq_true rfl)) dX8_sift_1 ⟨Nat.le_of_ble_eq_true rfl, Nat.le_of_ble_eq_true rfl⟩) (fun r hq9 => ?_)
  rw [hq9]
  refine lv_if_ne (tgt := 10) hx hb dX8_sift_4 (by decide) (fun c1 => ?_) (fun c1 => ?_)
  · skip
    rw [if_neg c1] at hJ
    rw [if_neg c1] at hV
    refine lv_iload_n hx hb dX8_sift_10 rfl (lv_at hl 2 rfl) ?_
    refine lv_lload_n hx hb dX8_sift_11 rfl (lv_at hl 3 rfl) ?_
    refine vp_callSi (W.runS (As := [.int a2, .long a3]) (rest := []) ⟨hx, hb, hml, hown, hts⟩ (qX8_isFit l a2 a3) (va_cwS 2 hts gX8_sift_X8_isFit rfl rfl rfl (by decide +kernel) ⟨Nat.le_of_ble_eq_true rfl, Nat.le_of_ble_eq_true rfl⟩) ⟨fun _ _ _ _ q => q, fun U hU hW => rfl⟩ rfl rfl hl.1 rfl (lv_room (Nat.le_of_ble_eq_true rfl)) dX8_sift_12 ⟨Nat.le_of_ble_eq_true rfl, Nat.le_of_ble_eq_true rfl⟩) (fun r hq9 => ?_)
    rw [hq9]
    refine lv_if_ne (tgt := 21) hx hb dX8_sift_15 (by decide) (fun c2 => ?_) (fun c2 => ?_)
    · skip
      rw [if_neg c2] at hJ
      rw [if_neg c2] at hV
      refine lv_iload_n hx hb dX8_sift_21 rfl (lv_at hl 1 rfl) ?_
      refine lv_iload_n hx hb dX8_sift_22 rfl (lv_at hl 2 rfl) ?_
      refine vp_callSi (W.runS (As := [.int a1, .int a2]) (rest := []) ⟨hx, hb, hml, hown, hts⟩ (qX8_rowOf l a1 a2) (va_cwS 2 hts gX8_sift_X8_rowOf rfl rfl rfl (by decide +kernel) ⟨Nat.le_of_ble_eq_true rfl, Nat.le_of_ble_eq_true rfl⟩) ⟨fun _ _ _ _ q => q, fun U hU hW => rfl⟩ rfl rfl hl.1 rfl (lv_room (Nat.le_of_ble_eq_true rfl)) dX8_sift_23 ⟨Nat.le_of_ble_eq_true rfl, Nat.le_of_ble_eq_true rfl⟩) (fun r hq9 => ?_)
      rw [hq9]
      refine lv_topi (fun y3 ey3 => ?_)
      rw [← ey3] at hJ
      rw [jX8_sift_y3] at hJ
      rw [← ey3] at hV
      rw [sX8_sift_y3] at hV
      have hV := hV.2
      refine lv_istore (lv' := [(5, .int y3), (0, .ref y), (1, .int a1), (2, .int a2), (3, .long a3)]) hx hb dX8_sift_26 hl (by decide) rfl (fun ls hl => ?_)
      refine lv_aload_n hx hb dX8_sift_28 rfl (lv_at hl 1 rfl) ?_
      refine va_get (D := (dC, dI)) (ci := 6) (v := .ref (bd 12)) (C := RX8) (T := TX8) (N := 20) (fs := wm_f bd o) hx hb hts hi_wsX80 hown hK hP 0 rfl rfl 14 (by decide) (hts (.fieldLink RX8 50 "OrreryDialsModel" "many" "[I") (by decide +kernel)) (fun _ h9 => h9) rfl dX8_sift_29 ?_
      refine lv_iload hx hb dX8_sift_32 (lv_at hl 0 rfl) ?_
      obtain ⟨hk4, hV⟩ := hV
      refine va_iald hx hb hK hP 13 0 rfl rfl hk4 dX8_sift_34 ?_
      refine lv_iconst (v := (-1 : Int32)) hx hb dX8_sift_35 (by decide) ?_
      refine lv_icmp_ne (tgt := 46) hx hb dX8_sift_36 (by decide) (fun c5 => ?_) (fun c5 => ?_)
      · skip
        rw [if_neg c5] at hJ
        rw [if_neg c5] at hV
        refine lv_iload_n hx hb dX8_sift_46 rfl (lv_at hl 3 rfl) ?_
        obtain ⟨hv, hV⟩ := hV
        refine jn_f (J := 58) (ls := ls) (v := (if a2 = 0 then (jX8_floatOf a3) else FP.fconst0)) (rest := []) ?_ (fun y6 ey6 => ?_)
        · intro hj
          refine lv_if_eq (tgt := 54) hx hb dX8_sift_47 (by decide) (fun c7 => ?_) (fun c7 => ?_)
          · skip
            rw [if_pos c7] at hj
            try rw [if_pos c7] at hv
            refine lv_lload_n hx hb dX8_sift_54 rfl (lv_at hl 4 rfl) ?_
            obtain ⟨hk8, hv⟩ := hv
            refine vp_callSf (W.runS (As := [.long a3]) (rest := []) ⟨hx, hb, hml, hown, hts⟩ (qX8_floatOf l a3 hk8) (va_cwS 1 hts gX8_sift_X8_floatOf rfl rfl rfl (by decide +kernel) ⟨Nat.le_of_ble_eq_true rfl, Nat.le_of_ble_eq_true rfl⟩) ⟨fun _ _ _ _ q => q, fun U hU hW => rfl⟩ rfl rfl hl.1 rfl (lv_room (Nat.le_of_ble_eq_true rfl)) dX8_sift_55 ⟨Nat.le_of_ble_eq_true rfl, Nat.le_of_ble_eq_true rfl⟩) (fun r hq9 => ?_)
            rw [hq9]
            exact hj
          · skip
            rw [if_neg c7] at hj
            try rw [if_neg c7] at hv
            refine lv_fconst0 hx hb dX8_sift_50 ?_
            refine lv_goto (tgt := 58) hx hb dX8_sift_51 (by decide) ?_
            exact hj
        rw [← ey6] at hJ
        rw [jX8_sift_y6] at hJ
        rw [← ey6] at hV
        rw [sX8_sift_y6] at hV
        have hV := hV.2
        refine lv_fstore (lv' := [(6, .float y6), (5, .int y3), (0, .ref y), (1, .int a1), (2, .int a2), (3, .long a3)]) hx hb dX8_sift_58 hl (by decide) rfl (fun ls hl => ?_)
        refine lv_iload_n hx hb dX8_sift_60 rfl (lv_at hl 4 rfl) ?_
        obtain ⟨hv, hV⟩ := hV
        refine jn_d (J := 72) (ls := ls) (v := (if a2 = 0 then FP.dconst0 else (jX8_doubleOf a3))) (rest := []) ?_ (fun y9 ey9 => ?_)
        · intro hj
          refine lv_if_eq (tgt := 71) hx hb dX8_sift_61 (by decide) (fun c10 => ?_) (fun c10 => ?_)
          · skip
            rw [if_pos c10] at hj
            try rw [if_pos c10] at hv
            refine lv_dconst0 hx hb dX8_sift_71 ?_
            exact hj
          · skip
            rw [if_neg c10] at hj
            try rw [if_neg c10] at hv
            refine lv_lload_n hx hb dX8_sift_64 rfl (lv_at hl 5 rfl) ?_
            obtain ⟨hk11, hv⟩ := hv
            refine vp_callSd (W.runS (As := [.long a3]) (rest := []) ⟨hx, hb, hml, hown, hts⟩ (qX8_doubleOf l a3 hk11) (va_cwS 1 hts gX8_sift_X8_doubleOf rfl rfl rfl (by decide +kernel) ⟨Nat.le_of_ble_eq_true rfl, Nat.le_of_ble_eq_true rfl⟩) ⟨fun _ _ _ _ q => q, fun U hU hW => rfl⟩ rfl rfl hl.1 rfl (lv_room (Nat.le_of_ble_eq_true rfl)) dX8_sift_65 ⟨Nat.le_of_ble_eq_true rfl, Nat.le_of_ble_eq_true rfl⟩) (fun r hq9 => ?_)
            rw [hq9]
            refine lv_goto (tgt := 72) hx hb dX8_sift_68 (by decide) ?_
            exact hj
        rw [← ey9] at hJ
        rw [jX8_sift_y9] at hJ
        rw [← ey9] at hV
        rw [sX8_sift_y9] at hV
        have hV := hV.2
        refine lv_dstore (lv' := [(7, .double y9), (6, .float y6), (5, .int y3), (0, .ref y), (1, .int a1), (2, .int a2), (3, .long a3)]) hx hb dX8_sift_72 hl (by decide) rfl (fun ls hl => ?_)
        refine lv_iconst (v := (0 : Int32)) hx hb dX8_sift_74 (by decide) ?_
        refine lv_istore (lv' := [(9, .int (0 : Int32)), (7, .double y9), (6, .float y6), (5, .int y3), (0, .ref y), (1, .int a1), (2, .int a2), (3, .long a3)]) hx hb dX8_sift_75 hl (by decide) rfl (fun ls hl => ?_)
        refine lv_bipush (v := (16 : Int32)) hx hb dX8_sift_77 (by decide) ?_
        refine lv_iload_n hx hb dX8_sift_79 rfl (lv_at hl 5 rfl) ?_
        refine lv_imul hx hb dX8_sift_80 ?_
        refine lv_topi (fun y12 ey12 => ?_)
        rw [← ey12] at hJ
        rw [jX8_sift_y12] at hJ
        rw [← ey12] at hV
        rw [sX8_sift_y12] at hV
        have hV := hV.2
        refine lv_istore (lv' := [(10, .int y12), (9, .int (0 : Int32)), (7, .double y9), (6, .float y6), (5, .int y3), (0, .ref y), (1, .int a1), (2, .int a2), (3, .long a3)]) hx hb dX8_sift_81 hl (by decide) rfl (fun ls hl => ?_)
        refine jn_loopH (α := UInt32 × UInt64 × Int32 × Int32 × Ms × Array Slot) (P := fun q => F0 m 83 q.2.2.2.2.2 []) (I := fun n H locs q => lv_has q.2.2.2.2.2 12 [(10, .int q.2.2.2.1), (9, .int q.2.2.1), (7, .double q.2.1), (6, .float q.1), (5, .int y3), (0, .ref y), (1, .int a1), (2, .int a2), (3, .long a3)] ∧ va_P (dC, dI) vwCl (WM cy y bd q.2.2.2.2.1) H ∧ va_D A (WM cy y bd q.2.2.2.2.1) ∧ va_S A s.heap H locs ∧ jX8_sift_L o a1 a2 a3 y3 y6 y9 y12 n q.1 q.2.1 q.2.2.1 q.2.2.2.1 q.2.2.2.2.1 = JR ∧ sX8_sift_L o a1 a2 a3 y3 y6 y9 y12 n q.1 q.2.1 q.2.2.1 q.2.2.2.1 q.2.2.2.2.1) ?_ 64 _ _ (y6, y9, (0 : Int32), y12, o, ls) ⟨hl, hP, hD, hS, hJ, hV⟩
        intro n H locs ⟨v6, v7, v9, v10, oL, ls⟩ ⟨hl, hP, hD, hS, hJ, hV⟩ ih
        have hl : lv_has ls 12 [(10, .int v10), (9, .int v9), (7, .double v7), (6, .float v6), (5, .int y3), (0, .ref y), (1, .int a1), (2, .int a2), (3, .long a3)] := hl
        have hP : va_P (dC, dI) vwCl (WM cy y bd oL) H := hP
        have hD : va_D A (WM cy y bd oL) := hD
        have hJ : jX8_sift_L o a1 a2 a3 y3 y6 y9 y12 n v6 v7 v9 v10 oL = JR := hJ
        have hV : sX8_sift_L o a1 a2 a3 y3 y6 y9 y12 n v6 v7 v9 v10 oL := hV
        rcases n with _ | n
        · exact hV.elim
        rw [jX8_sift_L_s, jX8_sift_L_S] at hJ
        rw [sX8_sift_L_s, sX8_sift_L_S] at hV
        have hV := hV.2
        refine lv_iload hx hb dX8_sift_83 (lv_at hl 0 rfl) ?_
        refine lv_bipush (v := (16 : Int32)) hx hb dX8_sift_85 (by decide) ?_
        refine lv_iload_n hx hb dX8_sift_87 rfl (lv_at hl 6 rfl) ?_
        refine lv_imul hx hb dX8_sift_88 ?_
        refine lv_aload_n hx hb dX8_sift_89 rfl (lv_at hl 5 rfl) ?_
        refine va_get (D := (dC, dI)) (ci := 6) (v := .ref (bd 12)) (C := RX8) (T := TX8) (N := 20) (fs := wm_f bd oL) hx hb hts hi_wsX80 hown hK hP 0 rfl rfl 14 (by decide) (hts (.fieldLink RX8 50 "OrreryDialsModel" "many" "[I") (by decide +kernel)) (fun _ h9 => h9) rfl dX8_sift_90 ?_
        refine lv_iload hx hb dX8_sift_93 (lv_at hl 4 rfl) ?_
        obtain ⟨hk13, hV⟩ := hV
        refine va_iald hx hb hK hP 13 0 rfl rfl hk13 dX8_sift_95 ?_
        refine lv_iadd hx hb dX8_sift_96 ?_
        refine lv_icmp_ge (tgt := 205) hx hb dX8_sift_97 (by decide) (fun c14 => ?_) (fun c14 => ?_)
        · skip
          rw [if_pos c14] at hJ
          rw [if_pos c14] at hV
          refine lv_aload_n hx hb dX8_sift_205 rfl (lv_at hl 5 rfl) ?_
          refine lv_iload_n hx hb dX8_sift_206 rfl (lv_at hl 7 rfl) ?_
          refine jn_l (J := 224) (ls := ls) (v := (if a2 = 0 then ((jJxf58ca_floatToIntBits_5c35a v6).toInt64) else (jJxe99ae_doubleToLongBits_ccdee v7))) (rest := [.ref y]) ?_ (fun y15 ey15 => ?_)
          · intro hj
            refine lv_if_eq (tgt := 218) hx hb dX8_sift_207 (by decide) (fun c16 => ?_) (fun c16 => ?_)
            · skip
              rw [if_pos c16] at hj
              try rw [if_pos c16] at hv
              refine lv_fload hx hb dX8_sift_218 (lv_at hl 3 rfl) ?_
              refine vp_callSi (W.runS (As := [.float v6]) (rest := [.ref y]) ⟨hx, hb, hml, hown, hts⟩ (qJxf58ca_floatToIntBits_5c35a l v6) (va_cwS 1 hts gX8_sift_Jxf58ca_floatToIntBits_5c35a rfl rfl rfl (by decide +kernel) ⟨Nat.le_of_ble_eq_true rfl, Nat.le_of_ble_eq_true rfl⟩) ⟨fun _ _ _ _ q => q, fun U hU hW => rfl⟩ rfl rfl hl.1 rfl (lv_room (Nat.le_of_ble_eq_true rfl)) dX8_sift_220 ⟨Nat.le_of_ble_eq_true rfl, Nat.le_of_ble_eq_true rfl⟩) (fun r hq9 => ?_)
              rw [hq9]
              refine lv_i2l (v := (jJxf58ca_floatToIntBits_5c35a v6).toInt64) hx hb dX8_sift_223 rfl ?_
              exact hj
            · skip
              rw [if_neg c16] at hj
              try rw [if_neg c16] at hv
              refine lv_dload hx hb dX8_sift_210 (lv_at hl 2 rfl) ?_
              refine vp_callSl (W.runS (As := [.double v7]) (rest := [.ref y]) ⟨hx, hb, hml, hown, hts⟩ (qJxe99ae_doubleToLongBits_ccdee l v7) (va_cwS 1 hts gX8_sift_Jxe99ae_doubleToLongBits_ccdee rfl rfl rfl (by decide +kernel) ⟨Nat.le_of_ble_eq_true rfl, Nat.le_of_ble_eq_true rfl⟩) ⟨fun _ _ _ _ q => q, fun U hU hW => rfl⟩ rfl rfl hl.1 rfl (lv_room (Nat.le_of_ble_eq_true rfl)) dX8_sift_212 ⟨Nat.le_of_ble_eq_true rfl, Nat.le_of_ble_eq_true rfl⟩) (fun r hq9 => ?_)
              rw [hq9]
              refine lv_goto (tgt := 224) hx hb dX8_sift_215 (by decide) ?_
              exact hj
          rw [← ey15] at hJ
          rw [jX8_sift_y15] at hJ
          rw [← ey15] at hV
          rw [sX8_sift_y15] at hV
          have hV := hV.2
          refine va_put (D := (dC, dI)) (ci := 6) (v := .long y15) (ty := .long) (C := RX8) (T := TX8) (N := 20) (fs := wm_f bd oL) hx hb hts hi_wsX80 tyX8 tyX8_ok nmX8 hown hK hP hD hS 0 rfl rfl 17 (by decide) (hts (.fieldLink RX8 202 "OrreryDialsModel" "seen" "J") (by decide +kernel)) (fun _ h9 => h9) rfl (by decide +kernel) rfl rfl (by rw [wm_len]; decide) dX8_sift_224 (fun H locs hP hD hS => ?_)
          rw [wm_p_seen] at hP hD
          refine lv_aload_n hx hb dX8_sift_227 rfl (lv_at hl 5 rfl) ?_
          refine lv_iload hx hb dX8_sift_228 (lv_at hl 1 rfl) ?_
          refine cl_i (va_runV (As := [.int v9]) (rest := []) ⟨hx, hb, hml, hown, hts⟩ (qX8_done l dC dI cy y bd H.size (s_seen oL y15) v9) (cwV 1 hts gX8_sift_X8_done rfl rfl rfl (by decide +kernel) ⟨Nat.le_of_ble_eq_true rfl, Nat.le_of_ble_eq_true rfl⟩) (pV hK hP hD hk (q0 := 0) rfl rfl) rfl rfl hl.1 rfl (lv_room (Nat.le_of_ble_eq_true rfl)) dX8_sift_230 ⟨Nat.le_of_ble_eq_true rfl, Nat.le_of_ble_eq_true rfl⟩) hD hS hA (fun r u H locs hw hP hD hS => ?_)
          have hr1 : r = (jX8_done (s_seen oL y15) v9).1 := congrArg Prod.fst hw
          have hu1 : u = (jX8_done (s_seen oL y15) v9).2 := congrArg Prod.snd hw
          rw [hu1] at hP hD
          rw [hr1]
          exact W.iret hx hb hr (fun t ht hW => ⟨⟨_, _, rfl, hJ.trans hE.symm, by rw [ht]; exact hP, va_K.moved hW.alike hK, hD⟩, hS.F ht⟩) hS.2.2 dX8_sift_233
        · skip
          rw [if_neg c14] at hJ
          rw [if_neg c14] at hV
          refine lv_iload_n hx hb dX8_sift_100 rfl (lv_at hl 7 rfl) ?_
          obtain ⟨hv, hV⟩ := hV
          refine jn_i (J := 141) (ls := ls) (v := (if a2 = 0 then (if (Op.cmpValue (FP.fcmp (m_floats oL v10.toNatClampNeg) FP.fconst0) .l) = 0 then (0 : Int32) else (1 : Int32)) else (if (Op.cmpValue (FP.dcmp (m_doubles oL v10.toNatClampNeg) FP.dconst0) .l) = 0 then (0 : Int32) else (1 : Int32)))) (rest := []) ?_ (fun y17 ey17 => ?_)
          · intro hj
            refine lv_if_eq (tgt := 124) hx hb dX8_sift_101 (by decide) (fun c18 => ?_) (fun c18 => ?_)
            · skip
              rw [if_pos c18] at hj
              try rw [if_pos c18] at hv
              refine lv_aload_n hx hb dX8_sift_124 rfl (lv_at hl 5 rfl) ?_
              refine va_get (D := (dC, dI)) (ci := 6) (v := .ref (bd 13)) (C := RX8) (T := TX8) (N := 20) (fs := wm_f bd oL) hx hb hts hi_wsX80 hown hK hP 0 rfl rfl 15 (by decide) (hts (.fieldLink RX8 53 "OrreryDialsModel" "floats" "[F") (by decide +kernel)) (fun _ h9 => h9) rfl dX8_sift_125 ?_
              refine lv_iload hx hb dX8_sift_128 (lv_at hl 0 rfl) ?_
              obtain ⟨hk19, hv⟩ := hv
              refine va_fald hx hb hK hP 14 3 rfl rfl hk19 dX8_sift_130 ?_
              refine lv_fconst0 hx hb dX8_sift_131 ?_
              refine lv_fcmp hx hb dX8_sift_132 ?_
              refine lv_if_eq (tgt := 140) hx hb dX8_sift_133 (by decide) (fun c20 => ?_) (fun c20 => ?_)
              · skip
                rw [if_pos c20] at hj
                try rw [if_pos c20] at hv
                refine lv_iconst (v := (0 : Int32)) hx hb dX8_sift_140 (by decide) ?_
                exact hj
              · skip
                rw [if_neg c20] at hj
                try rw [if_neg c20] at hv
                refine lv_iconst (v := (1 : Int32)) hx hb dX8_sift_136 (by decide) ?_
                refine lv_goto (tgt := 141) hx hb dX8_sift_137 (by decide) ?_
                exact hj
            · skip
              rw [if_neg c18] at hj
              try rw [if_neg c18] at hv
              refine lv_aload_n hx hb dX8_sift_104 rfl (lv_at hl 5 rfl) ?_
              refine va_get (D := (dC, dI)) (ci := 6) (v := .ref (bd 14)) (C := RX8) (T := TX8) (N := 20) (fs := wm_f bd oL) hx hb hts hi_wsX80 hown hK hP 0 rfl rfl 16 (by decide) (hts (.fieldLink RX8 56 "OrreryDialsModel" "doubles" "[D") (by decide +kernel)) (fun _ h9 => h9) rfl dX8_sift_105 ?_
              refine lv_iload hx hb dX8_sift_108 (lv_at hl 0 rfl) ?_
              obtain ⟨hk21, hv⟩ := hv
              refine va_dald hx hb hK hP 15 4 rfl rfl hk21 dX8_sift_110 ?_
              refine lv_dconst0 hx hb dX8_sift_111 ?_
              refine lv_dcmp hx hb dX8_sift_112 ?_
              refine lv_if_eq (tgt := 120) hx hb dX8_sift_113 (by decide) (fun c22 => ?_) (fun c22 => ?_)
              · skip
                rw [if_pos c22] at hj
                try rw [if_pos c22] at hv
                refine lv_iconst (v := (0 : Int32)) hx hb dX8_sift_120 (by decide) ?_
                refine lv_goto (tgt := 141) hx hb dX8_sift_121 (by decide) ?_
                exact hj
              · skip
                rw [if_neg c22] at hj
                try rw [if_neg c22] at hv
                refine lv_iconst (v := (1 : Int32)) hx hb dX8_sift_116 (by decide) ?_
                refine lv_goto (tgt := 141) hx hb dX8_sift_117 (by decide) ?_
                exact hj
          rw [← ey17] at hJ
          rw [jX8_sift_y17] at hJ
          rw [← ey17] at hV
          rw [sX8_sift_y17] at hV
          have hV := hV.2
          refine lv_istore (lv' := [(11, .int y17), (10, .int v10), (9, .int v9), (7, .double v7), (6, .float v6), (5, .int y3), (0, .ref y), (1, .int a1), (2, .int a2), (3, .long a3)]) hx hb dX8_sift_141 hl (by decide) rfl (fun ls hl => ?_)
          refine lv_iload hx hb dX8_sift_143 (lv_at hl 2 rfl) ?_
          refine lv_iload hx hb dX8_sift_145 (lv_at hl 0 rfl) ?_
          refine jn_i (J := 155) (ls := ls) (v := (if y17 = 0 then (0 : Int32) else (1 : Int32))) (rest := [.int v9]) ?_ (fun y23 ey23 => ?_)
          · intro hj
            refine lv_if_eq (tgt := 154) hx hb dX8_sift_147 (by decide) (fun c24 => ?_) (fun c24 => ?_)
            · skip
              rw [if_pos c24] at hj
              try rw [if_pos c24] at hv
              refine lv_iconst (v := (0 : Int32)) hx hb dX8_sift_154 (by decide) ?_
              exact hj
            · skip
              rw [if_neg c24] at hj
              try rw [if_neg c24] at hv
              refine lv_iconst (v := (1 : Int32)) hx hb dX8_sift_150 (by decide) ?_
              refine lv_goto (tgt := 155) hx hb dX8_sift_151 (by decide) ?_
              exact hj
          rw [← ey23] at hJ
          rw [jX8_sift_y23] at hJ
          rw [← ey23] at hV
          rw [sX8_sift_y23] at hV
          have hV := hV.2
          refine lv_iadd hx hb dX8_sift_155 ?_
          refine lv_topi (fun y25 ey25 => ?_)
          rw [← ey25] at hJ
          rw [jX8_sift_y25] at hJ
          rw [← ey25] at hV
          rw [sX8_sift_y25] at hV
          have hV := hV.2
          refine lv_istore (lv' := [(9, .int y25), (11, .int y17), (10, .int v10), (7, .double v7), (6, .float v6), (5, .int y3), (0, .ref y), (1, .int a1), (2, .int a2), (3, .long a3)]) hx hb dX8_sift_156 hl (by decide) rfl (fun ls hl => ?_)
          refine lv_iload hx hb dX8_sift_158 (lv_at hl 1 rfl) ?_
          refine lv_if_eq (tgt := 182) hx hb dX8_sift_160 (by decide) (fun c26 => ?_) (fun c26 => ?_)
          · skip
            rw [if_pos c26] at hJ
            rw [if_pos c26] at hV
            refine lv_iload hx hb dX8_sift_182 (lv_at hl 1 rfl) ?_
            refine lv_if_eq (tgt := 199) hx hb dX8_sift_184 (by decide) (fun c27 => ?_) (fun c27 => ?_)
            · skip
              rw [if_pos c27] at hJ
              rw [if_pos c27] at hV
              refine lv_iinc (v := (v10 + (1 : Int32))) (lv' := [(10, .int (v10 + (1 : Int32))), (9, .int y25), (11, .int y17), (7, .double v7), (6, .float v6), (5, .int y3), (0, .ref y), (1, .int a1), (2, .int a2), (3, .long a3)]) hx hb dX8_sift_199 hl (k := 2) rfl (by first | rfl | decide) (by decide) rfl (fun ls hl => ?_)
              refine lv_goto (tgt := 83) hx hb dX8_sift_202 (by decide) ?_
              exact ih n _ _ (v6, v7, y25, (v10 + (1 : Int32)), oL, ls) rfl ⟨lv_sub hl [0, 1, 3, 4, 5, 6, 7, 8, 9] rfl, hP, hD, hS, hJ, hV⟩
            · skip
              rw [if_neg c27] at hJ
              rw [if_neg c27] at hV
              refine lv_fload hx hb dX8_sift_187 (lv_at hl 4 rfl) ?_
              refine lv_aload_n hx hb dX8_sift_189 rfl (lv_at hl 6 rfl) ?_
              refine va_get (D := (dC, dI)) (ci := 6) (v := .ref (bd 13)) (C := RX8) (T := TX8) (N := 20) (fs := wm_f bd oL) hx hb hts hi_wsX80 hown hK hP 0 rfl rfl 15 (by decide) (hts (.fieldLink RX8 53 "OrreryDialsModel" "floats" "[F") (by decide +kernel)) (fun _ h9 => h9) rfl dX8_sift_190 ?_
              refine lv_iload hx hb dX8_sift_193 (lv_at hl 2 rfl) ?_
              obtain ⟨hk28, hV⟩ := hV
              refine va_fald hx hb hK hP 14 3 rfl rfl hk28 dX8_sift_195 ?_
              obtain ⟨hk29, hV⟩ := hV
              refine lv_frem hx hb dX8_sift_196 hk29 ?_
              refine lv_topf (fun y30 ey30 => ?_)
              rw [← ey30] at hJ
              rw [jX8_sift_y30] at hJ
              rw [← ey30] at hV
              rw [sX8_sift_y30] at hV
              have hV := hV.2
              refine lv_fstore (lv' := [(6, .float y30), (9, .int y25), (11, .int y17), (10, .int v10), (7, .double v7), (5, .int y3), (0, .ref y), (1, .int a1), (2, .int a2), (3, .long a3)]) hx hb dX8_sift_197 hl (by decide) rfl (fun ls hl => ?_)
              refine lv_iinc (v := (v10 + (1 : Int32))) (lv' := [(10, .int (v10 + (1 : Int32))), (6, .float y30), (9, .int y25), (11, .int y17), (7, .double v7), (5, .int y3), (0, .ref y), (1, .int a1), (2, .int a2), (3, .long a3)]) hx hb dX8_sift_199 hl (k := 3) rfl (by first | rfl | decide) (by decide) rfl (fun ls hl => ?_)
              refine lv_goto (tgt := 83) hx hb dX8_sift_202 (by decide) ?_
              exact ih n _ _ (y30, v7, y25, (v10 + (1 : Int32)), oL, ls) rfl ⟨lv_sub hl [0, 2, 4, 1, 5, 6, 7, 8, 9] rfl, hP, hD, hS, hJ, hV⟩
          · skip
            rw [if_neg c26] at hJ
            rw [if_neg c26] at hV
            refine lv_iload_n hx hb dX8_sift_163 rfl (lv_at hl 8 rfl) ?_
            refine lv_if_eq (tgt := 182) hx hb dX8_sift_164 (by decide) (fun c31 => ?_) (fun c31 => ?_)
            · skip
              rw [if_pos c31] at hJ
              rw [if_pos c31] at hV
              refine lv_iload hx hb dX8_sift_182 (lv_at hl 1 rfl) ?_
              refine lv_if_eq (tgt := 199) hx hb dX8_sift_184 (by decide) (fun c32 => ?_) (fun c32 => ?_)
              · skip
                rw [if_pos c32] at hJ
                rw [if_pos c32] at hV
                refine lv_iinc (v := (v10 + (1 : Int32))) (lv' := [(10, .int (v10 + (1 : Int32))), (9, .int y25), (11, .int y17), (7, .double v7), (6, .float v6), (5, .int y3), (0, .ref y), (1, .int a1), (2, .int a2), (3, .long a3)]) hx hb dX8_sift_199 hl (k := 2) rfl (by first | rfl | decide) (by decide) rfl (fun ls hl => ?_)
                refine lv_goto (tgt := 83) hx hb dX8_sift_202 (by decide) ?_
                exact ih n _ _ (v6, v7, y25, (v10 + (1 : Int32)), oL, ls) rfl ⟨lv_sub hl [0, 1, 3, 4, 5, 6, 7, 8, 9] rfl, hP, hD, hS, hJ, hV⟩
              · skip
                rw [if_neg c32] at hJ
                rw [if_neg c32] at hV
                refine lv_fload hx hb dX8_sift_187 (lv_at hl 4 rfl) ?_
                refine lv_aload_n hx hb dX8_sift_189 rfl (lv_at hl 6 rfl) ?_
                refine va_get (D := (dC, dI)) (ci := 6) (v := .ref (bd 13)) (C := RX8) (T := TX8) (N := 20) (fs := wm_f bd oL) hx hb hts hi_wsX80 hown hK hP 0 rfl rfl 15 (by decide) (hts (.fieldLink RX8 53 "OrreryDialsModel" "floats" "[F") (by decide +kernel)) (fun _ h9 => h9) rfl dX8_sift_190 ?_
                refine lv_iload hx hb dX8_sift_193 (lv_at hl 2 rfl) ?_
                obtain ⟨hk33, hV⟩ := hV
                refine va_fald hx hb hK hP 14 3 rfl rfl hk33 dX8_sift_195 ?_
                obtain ⟨hk34, hV⟩ := hV
                refine lv_frem hx hb dX8_sift_196 hk34 ?_
                refine lv_topf (fun y35 ey35 => ?_)
                rw [← ey35] at hJ
                rw [jX8_sift_y35] at hJ
                rw [← ey35] at hV
                rw [sX8_sift_y35] at hV
                have hV := hV.2
                refine lv_fstore (lv' := [(6, .float y35), (9, .int y25), (11, .int y17), (10, .int v10), (7, .double v7), (5, .int y3), (0, .ref y), (1, .int a1), (2, .int a2), (3, .long a3)]) hx hb dX8_sift_197 hl (by decide) rfl (fun ls hl => ?_)
                refine lv_iinc (v := (v10 + (1 : Int32))) (lv' := [(10, .int (v10 + (1 : Int32))), (6, .float y35), (9, .int y25), (11, .int y17), (7, .double v7), (5, .int y3), (0, .ref y), (1, .int a1), (2, .int a2), (3, .long a3)]) hx hb dX8_sift_199 hl (k := 3) rfl (by first | rfl | decide) (by decide) rfl (fun ls hl => ?_)
                refine lv_goto (tgt := 83) hx hb dX8_sift_202 (by decide) ?_
                exact ih n _ _ (y35, v7, y25, (v10 + (1 : Int32)), oL, ls) rfl ⟨lv_sub hl [0, 2, 4, 1, 5, 6, 7, 8, 9] rfl, hP, hD, hS, hJ, hV⟩
            · skip
              rw [if_neg c31] at hJ
              rw [if_neg c31] at hV
              refine lv_dload hx hb dX8_sift_167 (lv_at hl 3 rfl) ?_
              refine lv_aload_n hx hb dX8_sift_169 rfl (lv_at hl 6 rfl) ?_
              refine va_get (D := (dC, dI)) (ci := 6) (v := .ref (bd 14)) (C := RX8) (T := TX8) (N := 20) (fs := wm_f bd oL) hx hb hts hi_wsX80 hown hK hP 0 rfl rfl 16 (by decide) (hts (.fieldLink RX8 56 "OrreryDialsModel" "doubles" "[D") (by decide +kernel)) (fun _ h9 => h9) rfl dX8_sift_170 ?_
              refine lv_iload hx hb dX8_sift_173 (lv_at hl 2 rfl) ?_
              obtain ⟨hk36, hV⟩ := hV
              refine va_dald hx hb hK hP 15 4 rfl rfl hk36 dX8_sift_175 ?_
              obtain ⟨hk37, hV⟩ := hV
              refine lv_drem hx hb dX8_sift_176 hk37 ?_
              refine lv_topd (fun y38 ey38 => ?_)
              rw [← ey38] at hJ
              rw [jX8_sift_y38] at hJ
              rw [← ey38] at hV
              rw [sX8_sift_y38] at hV
              have hV := hV.2
              refine lv_dstore (lv' := [(7, .double y38), (9, .int y25), (11, .int y17), (10, .int v10), (6, .float v6), (5, .int y3), (0, .ref y), (1, .int a1), (2, .int a2), (3, .long a3)]) hx hb dX8_sift_177 hl (by decide) rfl (fun ls hl => ?_)
              refine lv_goto (tgt := 199) hx hb dX8_sift_179 (by decide) ?_
              refine lv_iinc (v := (v10 + (1 : Int32))) (lv' := [(10, .int (v10 + (1 : Int32))), (7, .double y38), (9, .int y25), (11, .int y17), (6, .float v6), (5, .int y3), (0, .ref y), (1, .int a1), (2, .int a2), (3, .long a3)]) hx hb dX8_sift_199 hl (k := 3) rfl (by first | rfl | decide) (by decide) rfl (fun ls hl => ?_)
              refine lv_goto (tgt := 83) hx hb dX8_sift_202 (by decide) ?_
              exact ih n _ _ (v6, y38, y25, (v10 + (1 : Int32)), oL, ls) rfl ⟨lv_sub hl [0, 2, 1, 4, 5, 6, 7, 8, 9] rfl, hP, hD, hS, hJ, hV⟩
      · skip
        rw [if_pos c5] at hJ
        rw [if_pos c5] at hV
        refine lv_aload_n hx hb dX8_sift_39 rfl (lv_at hl 1 rfl) ?_
        refine lv_bipush (v := (-11 : Int32)) hx hb dX8_sift_40 (by decide) ?_
        obtain ⟨hk39, hV⟩ := hV
        refine cl_i (va_runV (As := [.int (-11 : Int32)]) (rest := []) ⟨hx, hb, hml, hown, hts⟩ (qX8_fails l dC dI cy y bd H.size o (-11 : Int32) hk39) (cwV 1 hts gX8_sift_X8_fails rfl rfl rfl (by decide +kernel) ⟨Nat.le_of_ble_eq_true rfl, Nat.le_of_ble_eq_true rfl⟩) (pV hK hP hD hk (q0 := 0) rfl rfl) rfl rfl hl.1 rfl (lv_room (Nat.le_of_ble_eq_true rfl)) dX8_sift_42 ⟨Nat.le_of_ble_eq_true rfl, Nat.le_of_ble_eq_true rfl⟩) hD hS hA (fun r u H locs hw hP hD hS => ?_)
        have hr1 : r = (jX8_fails o (-11 : Int32)).1 := congrArg Prod.fst hw
        have hu1 : u = (jX8_fails o (-11 : Int32)).2 := congrArg Prod.snd hw
        rw [hu1] at hP hD
        rw [hr1]
        exact W.iret hx hb hr (fun t ht hW => ⟨⟨_, _, rfl, hJ.trans hE.symm, by rw [ht]; exact hP, va_K.moved hW.alike hK, hD⟩, hS.F ht⟩) hS.2.2 dX8_sift_45
    · skip
      rw [if_pos c2] at hJ
      rw [if_pos c2] at hV
      refine lv_bipush (v := (-102 : Int32)) hx hb dX8_sift_18 (by decide) ?_
      exact W.iret hx hb hr (fun t ht hW => ⟨⟨_, _, rfl, hJ.trans hE.symm, by rw [ht]; exact hP, va_K.moved hW.alike hK, hD⟩, hS.F ht⟩) hS.2.2 dX8_sift_20
  · skip
    rw [if_pos c1] at hJ
    rw [if_pos c1] at hV
    refine lv_bipush (v := (-101 : Int32)) hx hb dX8_sift_7 (by decide) ?_
    exact W.iret hx hb hr (fun t ht hW => ⟨⟨_, _, rfl, hJ.trans hE.symm, by rw [ht]; exact hP, va_K.moved hW.alike hK, hD⟩, hS.F ht⟩) hS.2.2 dX8_sift_9
