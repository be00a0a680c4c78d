def jX7_spin_L_S (o : Os) (a1 : Int32) (a2 : Int64) (a4 : Int32) (d2 : Nat) (y4 : Int64) (rec_ : Int32 → Os → (Int32 × Os)) (v8 : Int32) (oL : Os) : Int32 × Os := (if a4 ≤ v8 then ((jX7_done oL a4).1, (jX7_done oL a4).2) else (if ((jX1_turnBy oL d2 y4).1) = 0 then (v8, (jX7_failWith ((jX1_turnBy oL d2 y4).2) (-15 : Int32)).2) else (rec_ (v8 + (1 : Int32)) ((jX1_turnBy oL d2 y4).2))))
def jX7_spin_L (o : Os) (a1 : Int32) (a2 : Int64) (a4 : Int32) (d2 : Nat) (y4 : Int64) : Nat → Int32 → Os → (Int32 × Os)
  | 0, _, oL => ((0 : Int32), oL)
  | n + 1, v8, oL => jX7_spin_L_S o a1 a2 a4 d2 y4 (jX7_spin_L o a1 a2 a4 d2 y4 n) v8 oL
theorem jX7_spin_L_s (o : Os) (a1 : Int32) (a2 : Int64) (a4 : Int32) (d2 : Nat) (y4 : Int64) (n : Nat) (v8 : Int32) (oL : Os) : jX7_spin_L o a1 a2 a4 d2 y4 (n + 1) v8 oL = jX7_spin_L_S o a1 a2 a4 d2 y4 (jX7_spin_L o a1 a2 a4 d2 y4 n) v8 oL := rfl
def sX7_spin_L_S (o : Os) (a1 : Int32) (a2 : Int64) (a4 : Int32) (d2 : Nat) (y4 : Int64) (srec_ : Int32 → Os → Prop) (v8 : Int32) (oL : Os) : Prop := True ∧ (if a4 ≤ v8 then True else (sX1_turnBy oL d2 y4 ∧ (d2 < c_nd oL ∧ (if ((jX1_turnBy oL d2 y4).1) = 0 then (sX7_failWith ((jX1_turnBy oL d2 y4).2) (-15 : Int32) ∧ True) else (srec_ (v8 + (1 : Int32)) ((jX1_turnBy oL d2 y4).2))))))
def sX7_spin_L (o : Os) (a1 : Int32) (a2 : Int64) (a4 : Int32) (d2 : Nat) (y4 : Int64) : Nat → Int32 → Os → Prop
  | 0, _, _ => False
  | n + 1, v8, oL => sX7_spin_L_S o a1 a2 a4 d2 y4 (sX7_spin_L o a1 a2 a4 d2 y4 n) v8 oL
theorem sX7_spin_L_s (o : Os) (a1 : Int32) (a2 : Int64) (a4 : Int32) (d2 : Nat) (y4 : Int64) (n : Nat) (v8 : Int32) (oL : Os) : sX7_spin_L o a1 a2 a4 d2 y4 (n + 1) v8 oL = sX7_spin_L_S o a1 a2 a4 d2 y4 (sX7_spin_L o a1 a2 a4 d2 y4 n) v8 oL := rfl
def jX7_spin_y4 (o : Os) (a1 : Int32) (a2 : Int64) (a4 : Int32) (d2 : Nat) (y4 : Int64) : Int32 × Os := (if (jX4_isFit (c_dF o d2) y4) = 0 then ((-102 : Int32), o) else (if a4 < 0 then ((-102 : Int32), o) else (if a4 ≤ (40 : Int32) then (jX7_spin_L o a1 a2 a4 d2 y4 64 (0 : Int32) o) else ((-102 : Int32), o))))
def sX7_spin_y4 (o : Os) (a1 : Int32) (a2 : Int64) (a4 : Int32) (d2 : Nat) (y4 : Int64) : Prop := True ∧ (if (jX4_isFit (c_dF o d2) y4) = 0 then True else (if a4 < 0 then True else (if a4 ≤ (40 : Int32) then (sX7_spin_L o a1 a2 a4 d2 y4 64 (0 : Int32) o) else True)))
def jX7_spin (o : Os) (a1 : Int32) (a2 : Int64) (a4 : Int32) : Int32 × Os := (om (jX7_dialAt o a1) ((-101 : Int32), o) (fun d2 => (jX7_spin_y4 o a1 a2 a4 d2 (jX4_told (c_dF o d2) a2))))
def sX7_spin (o : Os) (a1 : Int32) (a2 : Int64) (a4 : Int32) : Prop := True ∧ (sX7_dialAt o a1 ∧ (om (jX7_dialAt o a1) True (fun d2 => (d2 < c_nd o ∧ (sX7_spin_y4 o a1 a2 a4 d2 (jX4_told (c_dF o d2) a2))))))
set_option linter.constructorNameAsVariable false in
set_option maxHeartbeats 8000000 in
set_option maxRecDepth 100000 in
theorem qX7_spin (l : Launch) (dC : Nat → ClassId) (dI : Nat → Nat → Nat) (cy : Nat → ClassId) (x : Nat) (ad : Nat → Nat) (sz : Nat) (o : Os) (a1 : Int32) (a2 : Int64) (a4 : Int32) (hV : sX7_spin o a1 a2 a4) : Met l yX7_spin wsX7_spin ({ frames := 6, cells := 0, slots := 0, locals := 158 }) (va_Pc [.ref x, .int a1, .long a2, .int a4] (wI (dC, dI) (tyA cy) (WX cy x ad o) sz)) (va_Qi (fun r u => (r, u) = jX7_spin o a1 a2 a4) (fun u t => wO (dC, dI) (tyA cy) (va_A (WX cy x ad o) sz) (WX cy x ad u) t) (va_A (WX cy x ad o) sz)) 0 0 (va_A (WX cy x ad o) sz) := by
  refine Met.ofW (cc := cX7_spin) (maxL := 9) (ret := some .int) (by decide) rfl ?_
  intro p e s m args below meth c s₁ B hml hv
  obtain ⟨rfl, hsz, hP, hK, hD0, hk⟩ := hv
  have hx := B.exec
  have hb := B.bytes
  have hr := B.returns
  have hts := atoms_spec (ws := wsX7_spin) B.pre
  have hown : s.vm.findClass RX7 = some m.cls := findClass_of_methodNamed B.named
  have hlocks := B.notSynchronized
  subst hsz
  have hD := hD0.self (sz := s.heap.size)
  generalize hAe : va_A (WX cy x ad o) s.heap.size = A at hD ⊢
  have hA : ∀ q : Nat, s.heap.size ≤ q → A q := fun q h => by rw [← hAe]; exact Or.inr h
  obtain ⟨H, hHe⟩ : ∃ H, s.heap = H := ⟨_, rfl⟩
  have hP : va_P (dC, dI) vwCl (WX cy x ad o) H := by rw [← hHe]; exact hP
  have hS : va_S A s.heap H [] := by rw [← hHe]; exact va_S.rf
  rw [w_heap hHe]
  have hi_wsX10 : ∀ w ∈ wsX10, w ∈ wsX7_spin := fun _ h => List.mem_cons_of_mem _ (List.mem_append_left _ (List.mem_append_right _ h))
  have hi_wsX70 : ∀ w ∈ wsX70, w ∈ wsX7_spin := fun _ h => List.mem_cons_of_mem _ (List.mem_append_right _ h)
  obtain ⟨JR, hE⟩ : ∃ q, jX7_spin o a1 a2 a4 = q := ⟨_, rfl⟩
  have hJ := hE
  rw [jX7_spin] at hJ
  rw [sX7_spin] at hV
  have hV := hV.2
  have hl := lv_entry ([.ref x, .int a1, .long a2, .int a4]) (n := 9) (Nat.le_of_ble_eq_true rfl)
  rw [lg_entry_eq]
  generalize (lg_sl ([.ref x, .int a1, .long a2, .int a4]) ++ List.replicate (9 - (lg_sl ([.ref x, .int a1, .long a2, .int a4])).length) Slot.unset).toArray = ls at hl ⊢
  have hl : lv_has ls 9 [(0, .ref x), (1, .int a1), (2, .long a2), (4, .int a4)] := hl
  refine lv_aload_n hx hb dX7_spin_0 rfl (lv_at hl 0 rfl) ?_
  refine lv_iload_n hx hb dX7_spin_1 rfl (lv_at hl 1 rfl) ?_
  obtain ⟨hk1, hV⟩ := hV
  refine va_csq (W.runV (As := [.int a1]) (rest := []) ⟨hx, hb, hml, hown, hts⟩ (qX7_dialAt l dC dI cy x ad H.size o a1 hk1) (cwV 1 hts gX7_spin_X7_dialAt rfl rfl rfl (by decide +kernel) ⟨Nat.le_of_ble_eq_true rfl, Nat.le_of_ble_eq_true rfl⟩) (pV hK hP hD hk (q0 := 0) (wx_h (o := o) rfl) rfl) rfl rfl hl.1 rfl (lv_room (Nat.le_of_ble_eq_true rfl)) dX7_spin_2 ⟨Nat.le_of_ble_eq_true rfl, Nat.le_of_ble_eq_true rfl⟩) (fun r hq9 => ?_)
  rcases hd2 : jX7_dialAt o a1 with _ | d2
  · rw [hd2, om_n] at hJ
    rw [hd2, om_n] at hV
    rw [hd2] at hq9
    refine rf_n hq9 ?_
    refine lv_astoreN (lv' := [(5, .null), (0, .ref x), (1, .int a1), (2, .long a2), (4, .int a4)]) hx hb dX7_spin_5 hl (by decide) rfl (fun ls hl => ?_)
    refine lv_aloadN hx hb dX7_spin_7 (lv_at hl 0 rfl) ?_
    refine lv_ifnonnullN hx hb dX7_spin_9 ?_
    refine lv_bipush (v := (-101 : Int32)) hx hb dX7_spin_12 (by decide) ?_
    exact W.iret hx hb hr (fun t ht hW => ⟨⟨_, _, rfl, hJ.trans hE.symm, by rw [ht]; exact hP, va_K.moved hW.alike hK, hD⟩, hS.F ht⟩) hS.2.2 dX7_spin_14
  · rw [hd2, om_s] at hJ
    rw [hd2, om_s] at hV
    rw [hd2] at hq9
    refine rf_s hq9 ?_
    refine lv_astore (lv' := [(5, .ref (ad (100 + d2))), (0, .ref x), (1, .int a1), (2, .long a2), (4, .int a4)]) hx hb dX7_spin_5 hl (by decide) rfl (fun ls hl => ?_)
    refine lv_aload hx hb dX7_spin_7 (lv_at hl 0 rfl) ?_
    refine lv_ifnonnull (tgt := 15) hx hb dX7_spin_9 (by decide) ?_
    refine lv_aload hx hb dX7_spin_15 (lv_at hl 0 rfl) ?_
    obtain ⟨hk3, hV⟩ := hV
    refine va_get (D := (dC, dI)) (ci := 1) (v := .int (c_dF o d2)) (C := RX1) (T := TX1) (N := 4) (fs := (cx_dial o d2)) hx hb hts hi_wsX10 hown hK hP (7 + d2) (wx_dial (o := o) hk3) rfl 0 (by decide) (hts (.fieldLink RX7 72 "OrreryDials$Dial" "fine" "Z") (by decide +kernel)) (fun _ h9 => h9) rfl dX7_spin_17 ?_
    refine lv_lload_n hx hb dX7_spin_20 rfl (lv_at hl 3 rfl) ?_
    refine vp_callSl (W.runS (As := [.int (c_dF o d2), .long a2]) (rest := []) ⟨hx, hb, hml, hown, hts⟩ (qX4_told l (c_dF o d2) a2) (va_cwS 2 hts gX7_spin_X4_told rfl rfl rfl (by decide +kernel) ⟨Nat.le_of_ble_eq_true rfl, Nat.le_of_ble_eq_true rfl⟩) ⟨fun _ _ _ _ q => q, fun U hU hW => rfl⟩ rfl rfl hl.1 rfl (lv_room (Nat.le_of_ble_eq_true rfl)) dX7_spin_21 ⟨Nat.le_of_ble_eq_true rfl, Nat.le_of_ble_eq_true rfl⟩) (fun r hq9 => ?_)
    rw [hq9]
    refine lv_topl (fun y4 ey4 => ?_)
    rw [← ey4] at hJ
    rw [jX7_spin_y4] at hJ
    rw [← ey4] at hV
    rw [sX7_spin_y4] at hV
    have hV := hV.2
    refine lv_lstore (lv' := [(6, .long y4), (5, .ref (ad (100 + d2))), (0, .ref x), (1, .int a1), (2, .long a2), (4, .int a4)]) hx hb dX7_spin_24 hl (by decide) rfl (fun ls hl => ?_)
    refine lv_aload hx hb dX7_spin_26 (lv_at hl 1 rfl) ?_
    refine va_get (D := (dC, dI)) (ci := 1) (v := .int (c_dF o d2)) (C := RX1) (T := TX1) (N := 4) (fs := (cx_dial o d2)) hx hb hts hi_wsX10 hown hK hP (7 + d2) (wx_dial (o := o) hk3) rfl 0 (by decide) (hts (.fieldLink RX7 72 "OrreryDials$Dial" "fine" "Z") (by decide +kernel)) (fun _ h9 => h9) rfl dX7_spin_28 ?_
    refine lv_lload hx hb dX7_spin_31 (lv_at hl 0 rfl) ?_
    refine vp_callSi (W.runS (As := [.int (c_dF o d2), .long y4]) (rest := []) ⟨hx, hb, hml, hown, hts⟩ (qX4_isFit l (c_dF o d2) y4) (va_cwS 2 hts gX7_spin_X4_isFit rfl rfl rfl (by decide +kernel) ⟨Nat.le_of_ble_eq_true rfl, Nat.le_of_ble_eq_true rfl⟩) ⟨fun _ _ _ _ q => q, fun U hU hW => rfl⟩ rfl rfl hl.1 rfl (lv_room (Nat.le_of_ble_eq_true rfl)) dX7_spin_33 ⟨Nat.le_of_ble_eq_true rfl, Nat.le_of_ble_eq_true rfl⟩) (fun r hq9 => ?_)
    rw [hq9]
    refine lv_if_eq (tgt := 51) hx hb dX7_spin_36 (by decide) (fun c5 => ?_) (fun c5 => ?_)
    · skip
      rw [if_pos c5] at hJ
      rw [if_pos c5] at hV
      refine lv_bipush (v := (-102 : Int32)) hx hb dX7_spin_51 (by decide) ?_
      exact W.iret hx hb hr (fun t ht hW => ⟨⟨_, _, rfl, hJ.trans hE.symm, by rw [ht]; exact hP, va_K.moved hW.alike hK, hD⟩, hS.F ht⟩) hS.2.2 dX7_spin_53
    · skip
      rw [if_neg c5] at hJ
      rw [if_neg c5] at hV
      refine lv_iload hx hb dX7_spin_39 (lv_at hl 5 rfl) ?_
      refine lv_if_lt (tgt := 51) hx hb dX7_spin_41 (by decide) (fun c6 => ?_) (fun c6 => ?_)
      · skip
        rw [if_pos c6] at hJ
        rw [if_pos c6] at hV
        refine lv_bipush (v := (-102 : Int32)) hx hb dX7_spin_51 (by decide) ?_
        exact W.iret hx hb hr (fun t ht hW => ⟨⟨_, _, rfl, hJ.trans hE.symm, by rw [ht]; exact hP, va_K.moved hW.alike hK, hD⟩, hS.F ht⟩) hS.2.2 dX7_spin_53
      · skip
        rw [if_neg c6] at hJ
        rw [if_neg c6] at hV
        refine lv_iload hx hb dX7_spin_44 (lv_at hl 5 rfl) ?_
        refine lv_bipush (v := (40 : Int32)) hx hb dX7_spin_46 (by decide) ?_
        refine lv_icmp_le (tgt := 54) hx hb dX7_spin_48 (by decide) (fun c7 => ?_) (fun c7 => ?_)
        · skip
          rw [if_pos c7] at hJ
          rw [if_pos c7] at hV
          refine lv_iconst (v := (0 : Int32)) hx hb dX7_spin_54 (by decide) ?_
          refine lv_istore (lv' := [(8, .int (0 : Int32)), (6, .long y4), (5, .ref (ad (100 + d2))), (0, .ref x), (1, .int a1), (2, .long a2), (4, .int a4)]) hx hb dX7_spin_55 hl (by decide) rfl (fun ls hl => ?_)
          refine jn_loopH (α := Int32 × Os × Array Slot) (P := fun q => F0 m 57 q.2.2 []) (I := fun n H locs q => lv_has q.2.2 9 [(8, .int q.1), (6, .long y4), (5, .ref (ad (100 + d2))), (0, .ref x), (1, .int a1), (2, .long a2), (4, .int a4)] ∧ va_P (dC, dI) vwCl (WX cy x ad q.2.1) H ∧ va_D A (WX cy x ad q.2.1) ∧ va_S A s.heap H locs ∧ jX7_spin_L o a1 a2 a4 d2 y4 n q.1 q.2.1 = JR ∧ sX7_spin_L o a1 a2 a4 d2 y4 n q.1 q.2.1) ?_ 64 _ _ ((0 : Int32), o, ls) ⟨hl, hP, hD, hS, hJ, hV⟩
          intro n H locs ⟨v8, oL, ls⟩ ⟨hl, hP, hD, hS, hJ, hV⟩ ih
          have hl : lv_has ls 9 [(8, .int v8), (6, .long y4), (5, .ref (ad (100 + d2))), (0, .ref x), (1, .int a1), (2, .long a2), (4, .int a4)] := hl
          have hP : va_P (dC, dI) vwCl (WX cy x ad oL) H := hP
          have hD : va_D A (WX cy x ad oL) := hD
          have hJ : jX7_spin_L o a1 a2 a4 d2 y4 n v8 oL = JR := hJ
          have hV : sX7_spin_L o a1 a2 a4 d2 y4 n v8 oL := hV
          rcases n with _ | n
          · exact hV.elim
          rw [jX7_spin_L_s, jX7_spin_L_S] at hJ
          rw [sX7_spin_L_s, sX7_spin_L_S] at hV
          have hV := hV.2
          refine lv_iload hx hb dX7_spin_57 (lv_at hl 0 rfl) ?_
          refine lv_iload hx hb dX7_spin_59 (lv_at hl 6 rfl) ?_
          refine lv_icmp_ge (tgt := 90) hx hb dX7_spin_61 (by decide) (fun c8 => ?_) (fun c8 => ?_)
          · skip
            rw [if_pos c8] at hJ
            rw [if_pos c8] at hV
            refine lv_aload_n hx hb dX7_spin_90 rfl (lv_at hl 3 rfl) ?_
            refine lv_iload hx hb dX7_spin_91 (lv_at hl 6 rfl) ?_
            refine cl_i (va_runV (As := [.int a4]) (rest := []) ⟨hx, hb, hml, hown, hts⟩ (qX7_done l dC dI cy x ad H.size oL a4) (cwV 1 hts gX7_spin_X7_done rfl rfl rfl (by decide +kernel) ⟨Nat.le_of_ble_eq_true rfl, Nat.le_of_ble_eq_true rfl⟩) (pV hK hP hD hk (q0 := 0) (wx_h (o := oL) rfl) rfl) rfl rfl hl.1 rfl (lv_room (Nat.le_of_ble_eq_true rfl)) dX7_spin_93 ⟨Nat.le_of_ble_eq_true rfl, Nat.le_of_ble_eq_true rfl⟩) hD hS hA (fun r u H locs hw hP hD hS => ?_)
            have hr1 : r = (jX7_done oL a4).1 := congrArg Prod.fst hw
            have hu1 : u = (jX7_done oL a4).2 := congrArg Prod.snd hw
            rw [hu1] at hP hD
            rw [hr1]
            exact W.iret hx hb hr (fun t ht hW => ⟨⟨_, _, rfl, hJ.trans hE.symm, by rw [ht]; exact hP, va_K.moved hW.alike hK, hD⟩, hS.F ht⟩) hS.2.2 dX7_spin_96
          · skip
            rw [if_neg c8] at hJ
            rw [if_neg c8] at hV
            refine lv_aload hx hb dX7_spin_64 (lv_at hl 2 rfl) ?_
            refine lv_lload hx hb dX7_spin_66 (lv_at hl 1 rfl) ?_
            obtain ⟨hk9, hV⟩ := hV
            obtain ⟨hk10, hV⟩ := hV
            refine cl_i (va_runV (As := [.long y4]) (rest := []) ⟨hx, hb, hml, hown, hts⟩ (qX1_turnBy l dC dI cy x ad H.size oL d2 y4 hk9) (cwV 1 hts gX7_spin_X1_turnBy rfl rfl rfl (by decide +kernel) ⟨Nat.le_of_ble_eq_true rfl, Nat.le_of_ble_eq_true rfl⟩) (pV hK hP hD hk (q0 := (7 + d2)) (wx_dial (o := oL) hk10) rfl) rfl rfl hl.1 rfl (lv_room (Nat.le_of_ble_eq_true rfl)) dX7_spin_68 ⟨Nat.le_of_ble_eq_true rfl, Nat.le_of_ble_eq_true rfl⟩) hD hS hA (fun r u H locs hw hP hD hS => ?_)
            have hr1 : r = (jX1_turnBy oL d2 y4).1 := congrArg Prod.fst hw
            have hu1 : u = (jX1_turnBy oL d2 y4).2 := congrArg Prod.snd hw
            rw [hu1] at hP hD
            rw [hr1]
            refine lv_if_ne (tgt := 84) hx hb dX7_spin_71 (by decide) (fun c11 => ?_) (fun c11 => ?_)
            · skip
              rw [if_neg c11] at hJ
              rw [if_neg c11] at hV
              refine lv_iinc (v := (v8 + (1 : Int32))) (lv' := [(8, .int (v8 + (1 : Int32))), (6, .long y4), (5, .ref (ad (100 + d2))), (0, .ref x), (1, .int a1), (2, .long a2), (4, .int a4)]) hx hb dX7_spin_84 hl (k := 0) rfl (by first | rfl | decide) (by decide) rfl (fun ls hl => ?_)
              refine lv_goto (tgt := 57) hx hb dX7_spin_87 (by decide) ?_
              exact ih n _ _ ((v8 + (1 : Int32)), (jX1_turnBy oL d2 y4).2, ls) rfl ⟨lv_sub hl [0, 1, 2, 3, 4, 5, 6] rfl, hP, hD, hS, hJ, hV⟩
            · skip
              rw [if_pos c11] at hJ
              rw [if_pos c11] at hV
              refine lv_aload_n hx hb dX7_spin_74 rfl (lv_at hl 3 rfl) ?_
              refine lv_bipush (v := (-15 : Int32)) hx hb dX7_spin_75 (by decide) ?_
              obtain ⟨hk12, hV⟩ := hV
              refine cl_i (va_runV (As := [.int (-15 : Int32)]) (rest := []) ⟨hx, hb, hml, hown, hts⟩ (qX7_failWith l dC dI cy x ad H.size ((jX1_turnBy oL d2 y4).2) (-15 : Int32) hk12) (cwV 1 hts gX7_spin_X7_failWith rfl rfl rfl (by decide +kernel) ⟨Nat.le_of_ble_eq_true rfl, Nat.le_of_ble_eq_true rfl⟩) (pV hK hP hD hk (q0 := 0) (wx_h (o := ((jX1_turnBy oL d2 y4).2)) rfl) rfl) rfl rfl hl.1 rfl (lv_room (Nat.le_of_ble_eq_true rfl)) dX7_spin_77 ⟨Nat.le_of_ble_eq_true rfl, Nat.le_of_ble_eq_true rfl⟩) hD hS hA (fun r u H locs hw hP hD hS => ?_)
              have hr1 : r = (jX7_failWith ((jX1_turnBy oL d2 y4).2) (-15 : Int32)).1 := congrArg Prod.fst hw
              have hu1 : u = (jX7_failWith ((jX1_turnBy oL d2 y4).2) (-15 : Int32)).2 := congrArg Prod.snd hw
              rw [hu1] at hP hD
              rw [hr1]
              refine lv_pop hx hb dX7_spin_80 rfl ?_
              refine lv_iload hx hb dX7_spin_81 (lv_at hl 0 rfl) ?_
              exact W.iret hx hb hr (fun t ht hW => ⟨⟨_, _, rfl, hJ.trans hE.symm, by rw [ht]; exact hP, va_K.moved hW.alike hK, hD⟩, hS.F ht⟩) hS.2.2 dX7_spin_83
        · skip
          rw [if_neg c7] at hJ
          rw [if_neg c7] at hV
          refine lv_bipush (v := (-102 : Int32)) hx hb dX7_spin_51 (by decide) ?_
          exact W.iret hx hb hr (fun t ht hW => ⟨⟨_, _, rfl, hJ.trans hE.symm, by rw [ht]; exact hP, va_K.moved hW.alike hK, hD⟩, hS.F ht⟩) hS.2.2 dX7_spin_53
def jX7_sift_y13 (o : Os) (a1 : Int32) (a2 : Int32) (a3 : Int64) (d2 : Nat) (y3 : Int64) (v6 : Int64) (v8 : Int32) (v9 : Int32) (oL : Os) (rec_ : Int64 → Int32 → Int32 → Os → (Int32 × Os)) (y13 : Int64) : Int32 × Os := (rec_ y13 (v8 + (1 : Int32)) (v9 + (1 : Int32)) oL)
def sX7_sift_y13 (o : Os) (a1 : Int32) (a2 : Int32) (a3 : Int64) (d2 : Nat) (y3 : Int64) (v6 : Int64) (v8 : Int32) (v9 : Int32) (oL : Os) (srec_ : Int64 → Int32 → Int32 → Os → Prop) (y13 : Int64) : Prop := True ∧ (srec_ y13 (v8 + (1 : Int32)) (v9 + (1 : Int32)) oL)
def jX7_sift_L_S (o : Os) (a1 : Int32) (a2 : Int32) (a3 : Int64) (d2 : Nat) (y3 : Int64) (rec_ : Int64 → Int32 → Int32 → Os → (Int32 × Os)) (v6 : Int64) (v8 : Int32) (v9 : Int32) (oL : Os) : Int32 × Os := (if (c_rS oL d2) ≤ v9 then ((jX7_done (t_se oL v6) v8).1, (jX7_done (t_se oL v6) v8).2) else (if (jX4_isZero a2 (c_rP oL d2 v9.toNatClampNeg)) = 0 then (jX7_sift_y13 o a1 a2 a3 d2 y3 v6 v8 v9 oL rec_ (jX4_leftOver a2 v6 (c_rP oL d2 v9.toNatClampNeg))) else (rec_ v6 v8 (v9 + (1 : Int32)) oL)))
def jX7_sift_L (o : Os) (a1 : Int32) (a2 : Int32) (a3 : Int64) (d2 : Nat) (y3 : Int64) : Nat → Int64 → Int32 → Int32 → Os → (Int32 × Os)
  | 0, _, _, _, oL => ((0 : Int32), oL)
  | n + 1, v6, v8, v9, oL => jX7_sift_L_S o a1 a2 a3 d2 y3 (jX7_sift_L o a1 a2 a3 d2 y3 n) v6 v8 v9 oL
theorem jX7_sift_L_s (o : Os) (a1 : Int32) (a2 : Int32) (a3 : Int64) (d2 : Nat) (y3 : Int64) (n : Nat) (v6 : Int64) (v8 : Int32) (v9 : Int32) (oL : Os) : jX7_sift_L o a1 a2 a3 d2 y3 (n + 1) v6 v8 v9 oL = jX7_sift_L_S o a1 a2 a3 d2 y3 (jX7_sift_L o a1 a2 a3 d2 y3 n) v6 v8 v9 oL := rfl
def sX7_sift_L_S (o : Os) (a1 : Int32) (a2 : Int32) (a3 : Int64) (d2 : Nat) (y3 : Int64) (srec_ : Int64 → Int32 → Int32 → Os → Prop) (v6 : Int64) (v8 : Int32) (v9 : Int32) (oL : Os) : Prop := True ∧ (d2 < 16 ∧ (if (c_rS oL d2) ≤ v9 then True else (vp_in v9 16 ∧ (if (jX4_isZero a2 (c_rP oL d2 v9.toNatClampNeg)) = 0 then (vp_in v9 16 ∧ (sX7_sift_y13 o a1 a2 a3 d2 y3 v6 v8 v9 oL srec_ (jX4_leftOver a2 v6 (c_rP oL d2 v9.toNatClampNeg)))) else (srec_ v6 v8 (v9 + (1 : Int32)) oL)))))
def sX7_sift_L (o : Os) (a1 : Int32) (a2 : Int32) (a3 : Int64) (d2 : Nat) (y3 : Int64) : Nat → Int64 → Int32 → Int32 → Os → Prop
  | 0, _, _, _, _ => False
  | n + 1, v6, v8, v9, oL => sX7_sift_L_S o a1 a2 a3 d2 y3 (sX7_sift_L o a1 a2 a3 d2 y3 n) v6 v8 v9 oL
theorem sX7_sift_L_s (o : Os) (a1 : Int32) (a2 : Int32) (a3 : Int64) (d2 : Nat) (y3 : Int64) (n : Nat) (v6 : Int64) (v8 : Int32) (v9 : Int32) (oL : Os) : sX7_sift_L o a1 a2 a3 d2 y3 (n + 1) v6 v8 v9 oL = sX7_sift_L_S o a1 a2 a3 d2 y3 (sX7_sift_L o a1 a2 a3 d2 y3 n) v6 v8 v9 oL := rfl
def jX7_sift_y3 (o : Os) (a1 : Int32) (a2 : Int32) (a3 : Int64) (d2 : Nat) (y3 : Int64) : Int32 × Os := (if (jX4_isFit a2 y3) = 0 then ((-102 : Int32), o) else (if (jX5_isMissing o d2) = 0 then (jX7_sift_L o a1 a2 a3 d2 y3 64 y3 (0 : Int32) (0 : Int32) o) else ((jX7_failWith o (-11 : Int32)).1, (jX7_failWith o (-11 : Int32)).2)))
def sX7_sift_y3 (o : Os) (a1 : Int32) (a2 : Int32) (a3 : Int64) (d2 : Nat) (y3 : Int64) : Prop := True ∧ (if (jX4_isFit a2 y3) = 0 then True else (sX5_isMissing o d2 ∧ (d2 < 16 ∧ (if (jX5_isMissing o d2) = 0 then (sX7_sift_L o a1 a2 a3 d2 y3 64 y3 (0 : Int32) (0 : Int32) o) else (sX7_failWith o (-11 : Int32) ∧ True)))))
def jX7_sift (o : Os) (a1 : Int32) (a2 : Int32) (a3 : Int64) : Int32 × Os := (om (jX7_rowAt o a1 a2) ((-101 : Int32), o) (fun d2 => (jX7_sift_y3 o a1 a2 a3 d2 (jX4_told a2 a3))))
def sX7_sift (o : Os) (a1 : Int32) (a2 : Int32) (a3 : Int64) : Prop := True ∧ (sX7_rowAt o a1 a2 ∧ (om (jX7_rowAt o a1 a2) True (fun d2 => (sX7_sift_y3 o a1 a2 a3 d2 (jX4_told a2 a3)))))
set_option linter.constructorNameAsVariable false in
set_option maxHeartbeats 8000000 in
set_option maxRecDepth 100000 in
theorem qX7_sift (l : Launch) (dC : Nat → ClassId) (dI : Nat → Nat → Nat) (cy : Nat → ClassId) (x : Nat) (ad : Nat → Nat) (sz : Nat) (o : Os) (a1 : Int32) (a2 : Int32) (a3 : Int64) (hV : sX7_sift o a1 a2 a3) : Met l yX7_sift wsX7_sift ({ frames := 5, cells := 0, slots := 0, locals := 126 }) (va_Pc [.ref x, .int a1, .int a2, .long a3] (wI (dC, dI) (tyA cy) (WX cy x ad o) sz)) (va_Qi (fun r u => (r, u) = jX7_sift o a1 a2 a3) (fun u t => wO (dC, dI) (tyA cy) (va_A (WX cy x ad o) sz) (WX cy x ad u) t) (va_A (WX cy x ad o) sz)) 0 0 (va_A (WX cy x ad o) sz) := by
  refine Met.ofW (cc := cX7_sift) (maxL := 10) (ret := some .int) (by decide) rfl ?_
  intro p e s m args below meth c s₁ B hml hv
  obtain ⟨rfl, hsz, hP, hK, hD0, hk⟩ := hv
  have hx := B.exec
  have hb := B.bytes
  have hr := B.returns
  have hts := atoms_spec (ws := wsX7_sift) B.pre
  have hown : s.vm.findClass RX7 = some m.cls := findClass_of_methodNamed B.named
  have hlocks := B.notSynchronized
  subst hsz
  have hD := hD0.self (sz := s.heap.size)
  generalize hAe : va_A (WX cy x ad o) s.heap.size = A at hD ⊢
  have hA : ∀ q : Nat, s.heap.size ≤ q → A q := fun q h => by rw [← hAe]; exact Or.inr h
  obtain ⟨H, hHe⟩ : ∃ H, s.heap = H := ⟨_, rfl⟩
  have hP : va_P (dC, dI) vwCl (WX cy x ad o) H := by rw [← hHe]; exact hP
  have hS : va_S A s.heap H [] := by rw [← hHe]; exact va_S.rf
  rw [w_heap hHe]
  have hi_wsX50 : ∀ w ∈ wsX50, w ∈ wsX7_sift := fun _ h => List.mem_cons_of_mem _ (List.mem_append_left _ (List.mem_append_right _ h))
  have hi_wsX70 : ∀ w ∈ wsX70, w ∈ wsX7_sift := fun _ h => List.mem_cons_of_mem _ (List.mem_append_right _ h)
  obtain ⟨JR, hE⟩ : ∃ q, jX7_sift o a1 a2 a3 = q := ⟨_, rfl⟩
  have hJ := hE
  rw [jX7_sift] at hJ
  rw [sX7_sift] at hV
  have hV := hV.2
  have hl := lv_entry ([.ref x, .int a1, .int a2, .long a3]) (n := 10) (Nat.le_of_ble_eq_true rfl)
  rw [lg_entry_eq]
  generalize (lg_sl ([.ref x, .int a1, .int a2, .long a3]) ++ List.replicate (10 - (lg_sl ([.ref x, .int a1, .int a2, .long a3])).length) Slot.unset).toArray = ls at hl ⊢
  have hl : lv_has ls 10 [(0, .ref x), (1, .int a1), (2, .int a2), (3, .long a3)] := hl
  refine lv_aload_n hx hb dX7_sift_0 rfl (lv_at hl 0 rfl) ?_
  refine lv_iload_n hx hb dX7_sift_1 rfl (lv_at hl 1 rfl) ?_
  refine lv_iload_n hx hb dX7_sift_2 rfl (lv_at hl 2 rfl) ?_
  obtain ⟨hk1, hV⟩ := hV
  refine va_csq (W.runV (As := [.int a1, .int a2]) (rest := []) ⟨hx, hb, hml, hown, hts⟩ (qX7_rowAt l dC dI cy x ad H.size o a1 a2 hk1) (cwV 2 hts gX7_sift_X7_rowAt rfl rfl rfl (by decide +kernel) ⟨Nat.le_of_ble_eq_true rfl, Nat.le_of_ble_eq_true rfl⟩) (pV hK hP hD hk (q0 := 0) (wx_h (o := o) rfl) rfl) rfl rfl hl.1 rfl (lv_room (Nat.le_of_ble_eq_true rfl)) dX7_sift_3 ⟨Nat.le_of_ble_eq_true rfl, Nat.le_of_ble_eq_true rfl⟩) (fun r hq9 => ?_)
  rcases hd2 : jX7_rowAt o a1 a2 with _ | d2
  · rw [hd2, om_n] at hJ
    rw [hd2, om_n] at hV
    rw [hd2] at hq9
    refine rf_n hq9 ?_
    refine lv_astoreN (lv' := [(5, .null), (0, .ref x), (1, .int a1), (2, .int a2), (3, .long a3)]) hx hb dX7_sift_6 hl (by decide) rfl (fun ls hl => ?_)
    refine lv_aloadN hx hb dX7_sift_8 (lv_at hl 0 rfl) ?_
    refine lv_ifnonnullN hx hb dX7_sift_10 ?_
    refine lv_bipush (v := (-101 : Int32)) hx hb dX7_sift_13 (by decide) ?_
    exact W.iret hx hb hr (fun t ht hW => ⟨⟨_, _, rfl, hJ.trans hE.symm, by rw [ht]; exact hP, va_K.moved hW.alike hK, hD⟩, hS.F ht⟩) hS.2.2 dX7_sift_15
  · rw [hd2, om_s] at hJ
    rw [hd2, om_s] at hV
    rw [hd2] at hq9
    refine rf_s hq9 ?_
    refine lv_astore (lv' := [(5, .ref (ad (300 + d2))), (0, .ref x), (1, .int a1), (2, .int a2), (3, .long a3)]) hx hb dX7_sift_6 hl (by decide) rfl (fun ls hl => ?_)
    refine lv_aload hx hb dX7_sift_8 (lv_at hl 0 rfl) ?_
    refine lv_ifnonnull (tgt := 16) hx hb dX7_sift_10 (by decide) ?_
    refine lv_iload_n hx hb dX7_sift_16 rfl (lv_at hl 3 rfl) ?_
    refine lv_lload_n hx hb dX7_sift_17 rfl (lv_at hl 4 rfl) ?_
    refine vp_callSl (W.runS (As := [.int a2, .long a3]) (rest := []) ⟨hx, hb, hml, hown, hts⟩ (qX4_told l a2 a3) (va_cwS 2 hts gX7_sift_X4_told rfl rfl rfl (by decide +kernel) ⟨Nat.le_of_ble_eq_true rfl, Nat.le_of_ble_eq_true rfl⟩) ⟨fun _ _ _ _ q => q, fun U hU hW => rfl⟩ rfl rfl hl.1 rfl (lv_room (Nat.le_of_ble_eq_true rfl)) dX7_sift_18 ⟨Nat.le_of_ble_eq_true rfl, Nat.le_of_ble_eq_true rfl⟩) (fun r hq9 => ?_)
    rw [hq9]
    refine lv_topl (fun y3 ey3 => ?_)
    rw [← ey3] at hJ
    rw [jX7_sift_y3] at hJ
    rw [← ey3] at hV
    rw [sX7_sift_y3] at hV
    have hV := hV.2
    refine lv_lstore (lv' := [(6, .long y3), (5, .ref (ad (300 + d2))), (0, .ref x), (1, .int a1), (2, .int a2), (3, .long a3)]) hx hb dX7_sift_21 hl (by decide) rfl (fun ls hl => ?_)
    refine lv_iload_n hx hb dX7_sift_23 rfl (lv_at hl 4 rfl) ?_
    refine lv_lload hx hb dX7_sift_24 (lv_at hl 0 rfl) ?_
    refine vp_callSi (W.runS (As := [.int a2, .long y3]) (rest := []) ⟨hx, hb, hml, hown, hts⟩ (qX4_isFit l a2 y3) (va_cwS 2 hts gX7_sift_X4_isFit rfl rfl rfl (by decide +kernel) ⟨Nat.le_of_ble_eq_true rfl, Nat.le_of_ble_eq_true rfl⟩) ⟨fun _ _ _ _ q => q, fun U hU hW => rfl⟩ rfl rfl hl.1 rfl (lv_room (Nat.le_of_ble_eq_true rfl)) dX7_sift_26 ⟨Nat.le_of_ble_eq_true rfl, Nat.le_of_ble_eq_true rfl⟩) (fun r hq9 => ?_)
    rw [hq9]
    refine lv_if_ne (tgt := 35) hx hb dX7_sift_29 (by decide) (fun c4 => ?_) (fun c4 => ?_)
    · skip
      rw [if_neg c4] at hJ
      rw [if_neg c4] at hV
      refine lv_aload hx hb dX7_sift_35 (lv_at hl 1 rfl) ?_
      obtain ⟨hk5, hV⟩ := hV
      obtain ⟨hk6, hV⟩ := hV
      refine vp_callSi (W.runV (As := []) (rest := []) ⟨hx, hb, hml, hown, hts⟩ (qX5_isMissing l dC dI cy x ad H.size o d2 hk5) (cwV 0 hts gX7_sift_X5_isMissing rfl rfl rfl (by decide +kernel) ⟨Nat.le_of_ble_eq_true rfl, Nat.le_of_ble_eq_true rfl⟩) (pV hK hP hD hk (q0 := (7 + (c_nd o + (c_nv o + d2)))) (wx_row (o := o) hk6) rfl) rfl rfl hl.1 rfl (lv_room (Nat.le_of_ble_eq_true rfl)) dX7_sift_37 ⟨Nat.le_of_ble_eq_true rfl, Nat.le_of_ble_eq_true rfl⟩) (fun r hq9 => ?_)
      rw [hq9]
      refine lv_if_eq (tgt := 50) hx hb dX7_sift_40 (by decide) (fun c7 => ?_) (fun c7 => ?_)
      · skip
        rw [if_pos c7] at hJ
        rw [if_pos c7] at hV
        refine lv_iconst (v := (0 : Int32)) hx hb dX7_sift_50 (by decide) ?_
        refine lv_istore (lv' := [(8, .int (0 : Int32)), (6, .long y3), (5, .ref (ad (300 + d2))), (0, .ref x), (1, .int a1), (2, .int a2), (3, .long a3)]) hx hb dX7_sift_51 hl (by decide) rfl (fun ls hl => ?_)
        refine lv_iconst (v := (0 : Int32)) hx hb dX7_sift_53 (by decide) ?_
        refine lv_istore (lv' := [(9, .int (0 : Int32)), (8, .int (0 : Int32)), (6, .long y3), (5, .ref (ad (300 + d2))), (0, .ref x), (1, .int a1), (2, .int a2), (3, .long a3)]) hx hb dX7_sift_54 hl (by decide) rfl (fun ls hl => ?_)
        refine jn_loopH (α := Int64 × Int32 × Int32 × Os × Array Slot) (P := fun q => F0 m 56 q.2.2.2.2 []) (I := fun n H locs q => lv_has q.2.2.2.2 10 [(9, .int q.2.2.1), (8, .int q.2.1), (6, .long q.1), (5, .ref (ad (300 + d2))), (0, .ref x), (1, .int a1), (2, .int a2), (3, .long a3)] ∧ va_P (dC, dI) vwCl (WX cy x ad q.2.2.2.1) H ∧ va_D A (WX cy x ad q.2.2.2.1) ∧ va_S A s.heap H locs ∧ jX7_sift_L o a1 a2 a3 d2 y3 n q.1 q.2.1 q.2.2.1 q.2.2.2.1 = JR ∧ sX7_sift_L o a1 a2 a3 d2 y3 n q.1 q.2.1 q.2.2.1 q.2.2.2.1) ?_ 64 _ _ (y3, (0 : Int32), (0 : Int32), o, ls) ⟨hl, hP, hD, hS, hJ, hV⟩
        intro n H locs ⟨v6, v8, v9, oL, ls⟩ ⟨hl, hP, hD, hS, hJ, hV⟩ ih
        have hl : lv_has ls 10 [(9, .int v9), (8, .int v8), (6, .long v6), (5, .ref (ad (300 + d2))), (0, .ref x), (1, .int a1), (2, .int a2), (3, .long a3)] := hl
        have hP : va_P (dC, dI) vwCl (WX cy x ad oL) H := hP
        have hD : va_D A (WX cy x ad oL) := hD
        have hJ : jX7_sift_L o a1 a2 a3 d2 y3 n v6 v8 v9 oL = JR := hJ
        have hV : sX7_sift_L o a1 a2 a3 d2 y3 n v6 v8 v9 oL := hV
        rcases n with _ | n
        · exact hV.elim
        rw [jX7_sift_L_s, jX7_sift_L_S] at hJ
        rw [sX7_sift_L_s, sX7_sift_L_S] at hV
        have hV := hV.2
        refine lv_iload hx hb dX7_sift_56 (lv_at hl 0 rfl) ?_
        refine lv_aload hx hb dX7_sift_58 (lv_at hl 3 rfl) ?_
        obtain ⟨hk8, hV⟩ := hV
        refine va_get (D := (dC, dI)) (ci := 3) (v := .int (c_rS oL d2)) (C := RX5) (T := TX5) (N := 2) (fs := (cx_row ad oL d2)) hx hb hts hi_wsX50 hown hK hP (7 + (c_nd oL + (c_nv oL + d2))) (wx_row (o := oL) hk8) rfl 1 (by decide) (hts (.fieldLink RX7 156 "OrreryDials$Row" "size" "I") (by decide +kernel)) (fun _ h9 => h9) rfl dX7_sift_60 ?_
        refine lv_icmp_ge (tgt := 106) hx hb dX7_sift_63 (by decide) (fun c9 => ?_) (fun c9 => ?_)
        · skip
          rw [if_pos c9] at hJ
          rw [if_pos c9] at hV
          refine lv_aload_n hx hb dX7_sift_106 rfl (lv_at hl 4 rfl) ?_
          refine lv_lload hx hb dX7_sift_107 (lv_at hl 2 rfl) ?_
          refine va_put (D := (dC, dI)) (ci := 5) (v := .long v6) (ty := .long) (C := RX7) (T := TX7) (N := 10) (fs := (cx_f ad oL)) hx hb hts hi_wsX70 tyX7 tyX7_ok nmX7 hown hK hP hD hS 0 (wx_h (o := oL) rfl) rfl 7 (by decide) (hts (.fieldLink RX7 40 "OrreryDials" "seenBits" "J") (by decide +kernel)) (fun _ h9 => h9) rfl (by decide +kernel) rfl rfl (Nat.le_of_ble_eq_true rfl) dX7_sift_109 (fun H locs hP hD hS => ?_)
          rw [wx_p_se] at hP hD
          refine lv_aload_n hx hb dX7_sift_112 rfl (lv_at hl 4 rfl) ?_
          refine lv_iload hx hb dX7_sift_113 (lv_at hl 1 rfl) ?_
          refine cl_i (va_runV (As := [.int v8]) (rest := []) ⟨hx, hb, hml, hown, hts⟩ (qX7_done l dC dI cy x ad H.size (t_se oL v6) v8) (cwV 1 hts gX7_sift_X7_done rfl rfl rfl (by decide +kernel) ⟨Nat.le_of_ble_eq_true rfl, Nat.le_of_ble_eq_true rfl⟩) (pV hK hP hD hk (q0 := 0) (wx_h (o := (t_se oL v6)) rfl) rfl) rfl rfl hl.1 rfl (lv_room (Nat.le_of_ble_eq_true rfl)) dX7_sift_115 ⟨Nat.le_of_ble_eq_true rfl, Nat.le_of_ble_eq_true rfl⟩) hD hS hA (fun r u H locs hw hP hD hS => ?_)
          have hr1 : r = (jX7_done (t_se oL v6) v8).1 := congrArg Prod.fst hw
          have hu1 : u = (jX7_done (t_se oL v6) v8).2 := congrArg Prod.snd hw
          rw [hu1] at hP hD
          rw [hr1]
          exact W.iret hx hb hr (fun t ht hW => ⟨⟨_, _, rfl, hJ.trans hE.symm, by rw [ht]; exact hP, va_K.moved hW.alike hK, hD⟩, hS.F ht⟩) hS.2.2 dX7_sift_118
        · skip
          rw [if_neg c9] at hJ
          rw [if_neg c9] at hV
          refine lv_iload_n hx hb dX7_sift_66 rfl (lv_at hl 6 rfl) ?_
          refine lv_aload hx hb dX7_sift_67 (lv_at hl 3 rfl) ?_
          refine va_get (D := (dC, dI)) (ci := 3) (v := .ref (ad (400 + d2))) (C := RX5) (T := TX5) (N := 2) (fs := (cx_row ad oL d2)) hx hb hts hi_wsX50 hown hK hP (7 + (c_nd oL + (c_nv oL + d2))) (wx_row (o := oL) hk8) rfl 0 (by decide) (hts (.fieldLink RX7 140 "OrreryDials$Row" "places" "[J") (by decide +kernel)) (fun _ h9 => h9) rfl dX7_sift_69 ?_
          refine lv_iload hx hb dX7_sift_72 (lv_at hl 0 rfl) ?_
          obtain ⟨hk10, hV⟩ := hV
          refine va_lald hx hb hK hP (7 + (c_nd oL + (c_nv oL + (16 + d2)))) 1 (wx_arr (o := oL) hk8) rfl hk10 dX7_sift_74 ?_
          refine vp_callSi (W.runS (As := [.int a2, .long (c_rP oL d2 v9.toNatClampNeg)]) (rest := []) ⟨hx, hb, hml, hown, hts⟩ (qX4_isZero l a2 (c_rP oL d2 v9.toNatClampNeg)) (va_cwS 2 hts gX7_sift_X4_isZero rfl rfl rfl (by decide +kernel) ⟨Nat.le_of_ble_eq_true rfl, Nat.le_of_ble_eq_true rfl⟩) ⟨fun _ _ _ _ q => q, fun U hU hW => rfl⟩ rfl rfl hl.1 rfl (lv_room (Nat.le_of_ble_eq_true rfl)) dX7_sift_75 ⟨Nat.le_of_ble_eq_true rfl, Nat.le_of_ble_eq_true rfl⟩) (fun r hq9 => ?_)
          rw [hq9]
          refine lv_if_ne (tgt := 100) hx hb dX7_sift_78 (by decide) (fun c11 => ?_) (fun c11 => ?_)
          · skip
            rw [if_neg c11] at hJ
            rw [if_neg c11] at hV
            refine lv_iinc (v := (v9 + (1 : Int32))) (lv' := [(9, .int (v9 + (1 : Int32))), (8, .int v8), (6, .long v6), (5, .ref (ad (300 + d2))), (0, .ref x), (1, .int a1), (2, .int a2), (3, .long a3)]) hx hb dX7_sift_100 hl (k := 0) rfl (by first | rfl | decide) (by decide) rfl (fun ls hl => ?_)
            refine lv_goto (tgt := 56) hx hb dX7_sift_103 (by decide) ?_
            exact ih n _ _ (v6, v8, (v9 + (1 : Int32)), oL, ls) rfl ⟨lv_sub hl [0, 1, 2, 3, 4, 5, 6, 7] rfl, hP, hD, hS, hJ, hV⟩
          · skip
            rw [if_pos c11] at hJ
            rw [if_pos c11] at hV
            refine lv_iload_n hx hb dX7_sift_81 rfl (lv_at hl 6 rfl) ?_
            refine lv_lload hx hb dX7_sift_82 (lv_at hl 2 rfl) ?_
            refine lv_aload hx hb dX7_sift_84 (lv_at hl 3 rfl) ?_
            refine va_get (D := (dC, dI)) (ci := 3) (v := .ref (ad (400 + d2))) (C := RX5) (T := TX5) (N := 2) (fs := (cx_row ad oL d2)) hx hb hts hi_wsX50 hown hK hP (7 + (c_nd oL + (c_nv oL + d2))) (wx_row (o := oL) hk8) rfl 0 (by decide) (hts (.fieldLink RX7 140 "OrreryDials$Row" "places" "[J") (by decide +kernel)) (fun _ h9 => h9) rfl dX7_sift_86 ?_
            refine lv_iload hx hb dX7_sift_89 (lv_at hl 0 rfl) ?_
            obtain ⟨hk12, hV⟩ := hV
            refine va_lald hx hb hK hP (7 + (c_nd oL + (c_nv oL + (16 + d2)))) 1 (wx_arr (o := oL) hk8) rfl hk12 dX7_sift_91 ?_
            refine vp_callSl (W.runS (As := [.int a2, .long v6, .long (c_rP oL d2 v9.toNatClampNeg)]) (rest := []) ⟨hx, hb, hml, hown, hts⟩ (qX4_leftOver l a2 v6 (c_rP oL d2 v9.toNatClampNeg)) (va_cwS 3 hts gX7_sift_X4_leftOver rfl rfl rfl (by decide +kernel) ⟨Nat.le_of_ble_eq_true rfl, Nat.le_of_ble_eq_true rfl⟩) ⟨fun _ _ _ _ q => q, fun U hU hW => rfl⟩ rfl rfl hl.1 rfl (lv_room (Nat.le_of_ble_eq_true rfl)) dX7_sift_92 ⟨Nat.le_of_ble_eq_true rfl, Nat.le_of_ble_eq_true rfl⟩) (fun r hq9 => ?_)
            rw [hq9]
            refine lv_topl (fun y13 ey13 => ?_)
            rw [← ey13] at hJ
            rw [jX7_sift_y13] at hJ
            rw [← ey13] at hV
            rw [sX7_sift_y13] at hV
            have hV := hV.2
            refine lv_lstore (lv' := [(6, .long y13), (9, .int v9), (8, .int v8), (5, .ref (ad (300 + d2))), (0, .ref x), (1, .int a1), (2, .int a2), (3, .long a3)]) hx hb dX7_sift_95 hl (by decide) rfl (fun ls hl => ?_)
            refine lv_iinc (v := (v8 + (1 : Int32))) (lv' := [(8, .int (v8 + (1 : Int32))), (6, .long y13), (9, .int v9), (5, .ref (ad (300 + d2))), (0, .ref x), (1, .int a1), (2, .int a2), (3, .long a3)]) hx hb dX7_sift_97 hl (k := 2) rfl (by first | rfl | decide) (by decide) rfl (fun ls hl => ?_)
            refine lv_iinc (v := (v9 + (1 : Int32))) (lv' := [(9, .int (v9 + (1 : Int32))), (8, .int (v8 + (1 : Int32))), (6, .long y13), (5, .ref (ad (300 + d2))), (0, .ref x), (1, .int a1), (2, .int a2), (3, .long a3)]) hx hb dX7_sift_100 hl (k := 2) rfl (by first | rfl | decide) (by decide) rfl (fun ls hl => ?_)
            refine lv_goto (tgt := 56) hx hb dX7_sift_103 (by decide) ?_
            exact ih n _ _ (y13, (v8 + (1 : Int32)), (v9 + (1 : Int32)), oL, ls) rfl ⟨lv_sub hl [0, 1, 2, 3, 4, 5, 6, 7] rfl, hP, hD, hS, hJ, hV⟩
      · skip
        rw [if_neg c7] at hJ
        rw [if_neg c7] at hV
        refine lv_aload_n hx hb dX7_sift_43 rfl (lv_at hl 2 rfl) ?_
        refine lv_bipush (v := (-11 : Int32)) hx hb dX7_sift_44 (by decide) ?_
        obtain ⟨hk14, hV⟩ := hV
        refine cl_i (va_runV (As := [.int (-11 : Int32)]) (rest := []) ⟨hx, hb, hml, hown, hts⟩ (qX7_failWith l dC dI cy x ad H.size o (-11 : Int32) hk14) (cwV 1 hts gX7_sift_X7_failWith rfl rfl rfl (by decide +kernel) ⟨Nat.le_of_ble_eq_true rfl, Nat.le_of_ble_eq_true rfl⟩) (pV hK hP hD hk (q0 := 0) (wx_h (o := o) rfl) rfl) rfl rfl hl.1 rfl (lv_room (Nat.le_of_ble_eq_true rfl)) dX7_sift_46 ⟨Nat.le_of_ble_eq_true rfl, Nat.le_of_ble_eq_true rfl⟩) hD hS hA (fun r u H locs hw hP hD hS => ?_)
        have hr1 : r = (jX7_failWith o (-11 : Int32)).1 := congrArg Prod.fst hw
        have hu1 : u = (jX7_failWith o (-11 : Int32)).2 := congrArg Prod.snd hw
        rw [hu1] at hP hD
        rw [hr1]
        exact W.iret hx hb hr (fun t ht hW => ⟨⟨_, _, rfl, hJ.trans hE.symm, by rw [ht]; exact hP, va_K.moved hW.alike hK, hD⟩, hS.F ht⟩) hS.2.2 dX7_sift_49
    · skip
      rw [if_pos c4] at hJ
      rw [if_pos c4] at hV
      refine lv_bipush (v := (-102 : Int32)) hx hb dX7_sift_32 (by decide) ?_
      exact W.iret hx hb hr (fun t ht hW => ⟨⟨_, _, rfl, hJ.trans hE.symm, by rw [ht]; exact hP, va_K.moved hW.alike hK, hD⟩, hS.F ht⟩) hS.2.2 dX7_sift_34
