def jX7_done (o : Os) (a1 : Int32) : Int32 × Os := (a1, (t_fl o (0 : Int32)))
set_option linter.constructorNameAsVariable false in
set_option maxHeartbeats 8000000 in
set_option maxRecDepth 100000 in
theorem qX7_done (l : Launch) (dC : Nat → ClassId) (dI : Nat → Nat → Nat) (cy : Nat → ClassId) (x : Nat) (ad : Nat → Nat) (sz : Nat) (o : Os) (a1 : Int32) : Met l yX7_done wsX7_done ({ frames := 0, cells := 0, slots := 0, locals := 0 }) (va_Pc [.ref x, .int a1] (wI (dC, dI) (tyA cy) (WX cy x ad o) sz)) (va_Qi (fun r u => (r, u) = jX7_done o a1) (fun u t => wO (dC, dI) (tyA cy) (va_A (WX cy x ad o) sz) (WX cy x ad u) t) (va_A (WX cy x ad o) sz)) 0 0 (va_A (WX cy x ad o) sz) := by
  refine Met.ofW (cc := cX7_done) (maxL := 2) (ret := some .int) (by decide) rfl ?_
  intro p e s m args below meth c s₁ B hml hv
  obtain ⟨rfl, hsz, hP, hK, hD0, hk⟩ := hv
  have hx := B.exec
  have hb := B.bytes
  have hr := B.returns
  have hts := atoms_spec (ws := wsX7_done) B.pre
  have hown : s.vm.findClass RX7 = some m.cls := findClass_of_methodNamed B.named
  have hlocks := B.notSynchronized
  subst hsz
  have hD := hD0.self (sz := s.heap.size)
  generalize hAe : va_A (WX cy x ad o) s.heap.size = A at hD ⊢
  have hA : ∀ q : Nat, s.heap.size ≤ q → A q := fun q h => by rw [← hAe]; exact Or.inr h
  obtain ⟨H, hHe⟩ : ∃ H, s.heap = H := ⟨_, rfl⟩
  have hP : va_P (dC, dI) vwCl (WX cy x ad o) H := by rw [← hHe]; exact hP
  have hS : va_S A s.heap H [] := by rw [← hHe]; exact va_S.rf
  rw [w_heap hHe]
  have hi_wsX70 : ∀ w ∈ wsX70, w ∈ wsX7_done := fun _ h => List.mem_cons_of_mem _ (List.mem_append_right _ h)
  obtain ⟨JR, hE⟩ : ∃ q, jX7_done o a1 = q := ⟨_, rfl⟩
  have hJ := hE
  rw [jX7_done] at hJ
  have hl := lv_entry ([.ref x, .int a1]) (n := 2) (Nat.le_of_ble_eq_true rfl)
  rw [lg_entry_eq]
  generalize (lg_sl ([.ref x, .int a1]) ++ List.replicate (2 - (lg_sl ([.ref x, .int a1])).length) Slot.unset).toArray = ls at hl ⊢
  have hl : lv_has ls 2 [(0, .ref x), (1, .int a1)] := hl
  refine lv_aload_n hx hb dX7_done_0 rfl (lv_at hl 0 rfl) ?_
  refine lv_iconst (v := (0 : Int32)) hx hb dX7_done_1 (by decide) ?_
  refine va_put (D := (dC, dI)) (ci := 5) (v := .int (0 : Int32)) (ty := .int) (C := RX7) (T := TX7) (N := 10) (fs := (cx_f ad o)) hx hb hts hi_wsX70 tyX7 tyX7_ok nmX7 hown hK hP hD hS 0 (wx_h (o := o) rfl) rfl 8 (by decide) (hts (.fieldLink RX7 44 "OrreryDials" "latestFailure" "I") (by decide +kernel)) (fun _ h9 => h9) rfl (by decide +kernel) rfl rfl (Nat.le_of_ble_eq_true rfl) dX7_done_2 (fun H locs hP hD hS => ?_)
  rw [wx_p_fl] at hP hD
  refine lv_iload_n hx hb dX7_done_5 rfl (lv_at hl 1 rfl) ?_
  exact W.iret hx hb hr (fun t ht hW => ⟨⟨_, _, rfl, hJ.trans hE.symm, by rw [ht]; exact hP, va_K.moved hW.alike hK, hD⟩, hS.F ht⟩) hS.2.2 dX7_done_6
def jX7_failWith_o6 (o : Os) (a1 : Int32) (y1 : Int32) (o6 : Os) : Int32 × Os := (a1, o6)
def sX7_failWith_o6 (o : Os) (a1 : Int32) (y1 : Int32) (o6 : Os) : Prop := True ∧ True
def jX7_failWith_y1 (o : Os) (a1 : Int32) (y1 : Int32) : Int32 × Os := (if y1 < 0 then (a1, (t_fl o a1)) else (if (5 : Int32) ≤ y1 then (a1, (t_fl o a1)) else (jX7_failWith_o6 o a1 y1 (t_cn (t_fl o a1) (upd (c_cn (t_fl o a1)) y1.toNatClampNeg ((c_cn (t_fl o a1) y1.toNatClampNeg) + (1 : Int32)))))))
def sX7_failWith_y1 (o : Os) (a1 : Int32) (y1 : Int32) : Prop := True ∧ (if y1 < 0 then True else (if (5 : Int32) ≤ y1 then True else (vp_in y1 5 ∧ (vp_in y1 5 ∧ (sX7_failWith_o6 o a1 y1 (t_cn (t_fl o a1) (upd (c_cn (t_fl o a1)) y1.toNatClampNeg ((c_cn (t_fl o a1) y1.toNatClampNeg) + (1 : Int32)))))))))
def jX7_failWith (o : Os) (a1 : Int32) : Int32 × Os := (jX7_failWith_y1 o a1 ((-11 : Int32) - a1))
def sX7_failWith (o : Os) (a1 : Int32) : Prop := True ∧ (sX7_failWith_y1 o a1 ((-11 : Int32) - a1))
set_option linter.constructorNameAsVariable false in
set_option maxHeartbeats 8000000 in
set_option maxRecDepth 100000 in
theorem qX7_failWith (l : Launch) (dC : Nat → ClassId) (dI : Nat → Nat → Nat) (cy : Nat → ClassId) (x : Nat) (ad : Nat → Nat) (sz : Nat) (o : Os) (a1 : Int32) (hV : sX7_failWith o a1) : Met l yX7_failWith wsX7_failWith ({ frames := 0, cells := 0, slots := 0, locals := 0 }) (va_Pc [.ref x, .int a1] (wI (dC, dI) (tyA cy) (WX cy x ad o) sz)) (va_Qi (fun r u => (r, u) = jX7_failWith o a1) (fun u t => wO (dC, dI) (tyA cy) (va_A (WX cy x ad o) sz) (WX cy x ad u) t) (va_A (WX cy x ad o) sz)) 0 0 (va_A (WX cy x ad o) sz) := by
  refine Met.ofW (cc := cX7_failWith) (maxL := 3) (ret := some .int) (by decide) rfl ?_
  intro p e s m args below meth c s₁ B hml hv
  obtain ⟨rfl, hsz, hP, hK, hD0, hk⟩ := hv
  have hx := B.exec
  have hb := B.bytes
  have hr := B.returns
  have hts := atoms_spec (ws := wsX7_failWith) B.pre
  have hown : s.vm.findClass RX7 = some m.cls := findClass_of_methodNamed B.named
  have hlocks := B.notSynchronized
  subst hsz
  have hD := hD0.self (sz := s.heap.size)
  generalize hAe : va_A (WX cy x ad o) s.heap.size = A at hD ⊢
  have hA : ∀ q : Nat, s.heap.size ≤ q → A q := fun q h => by rw [← hAe]; exact Or.inr h
  obtain ⟨H, hHe⟩ : ∃ H, s.heap = H := ⟨_, rfl⟩
  have hP : va_P (dC, dI) vwCl (WX cy x ad o) H := by rw [← hHe]; exact hP
  have hS : va_S A s.heap H [] := by rw [← hHe]; exact va_S.rf
  rw [w_heap hHe]
  have hi_wsX70 : ∀ w ∈ wsX70, w ∈ wsX7_failWith := fun _ h => List.mem_cons_of_mem _ (List.mem_append_right _ h)
  obtain ⟨JR, hE⟩ : ∃ q, jX7_failWith o a1 = q := ⟨_, rfl⟩
  have hJ := hE
  rw [jX7_failWith] at hJ
  rw [sX7_failWith] at hV
  have hV := hV.2
  have hl := lv_entry ([.ref x, .int a1]) (n := 3) (Nat.le_of_ble_eq_true rfl)
  rw [lg_entry_eq]
  generalize (lg_sl ([.ref x, .int a1]) ++ List.replicate (3 - (lg_sl ([.ref x, .int a1])).length) Slot.unset).toArray = ls at hl ⊢
  have hl : lv_has ls 3 [(0, .ref x), (1, .int a1)] := hl
  refine lv_aload_n hx hb dX7_failWith_0 rfl (lv_at hl 0 rfl) ?_
  refine lv_iload_n hx hb dX7_failWith_1 rfl (lv_at hl 1 rfl) ?_
  refine va_put (D := (dC, dI)) (ci := 5) (v := .int a1) (ty := .int) (C := RX7) (T := TX7) (N := 10) (fs := (cx_f ad o)) hx hb hts hi_wsX70 tyX7 tyX7_ok nmX7 hown hK hP hD hS 0 (wx_h (o := o) rfl) rfl 8 (by decide) (hts (.fieldLink RX7 44 "OrreryDials" "latestFailure" "I") (by decide +kernel)) (fun _ h9 => h9) rfl (by decide +kernel) rfl rfl (Nat.le_of_ble_eq_true rfl) dX7_failWith_2 (fun H locs hP hD hS => ?_)
  rw [wx_p_fl] at hP hD
  refine lv_bipush (v := (-11 : Int32)) hx hb dX7_failWith_5 (by decide) ?_
  refine lv_iload_n hx hb dX7_failWith_7 rfl (lv_at hl 1 rfl) ?_
  refine lv_isub hx hb dX7_failWith_8 ?_
  refine lv_topi (fun y1 ey1 => ?_)
  rw [← ey1] at hJ
  rw [jX7_failWith_y1] at hJ
  rw [← ey1] at hV
  rw [sX7_failWith_y1] at hV
  have hV := hV.2
  refine lv_istore_n (lv' := [(2, .int y1), (0, .ref x), (1, .int a1)]) hx hb dX7_failWith_9 rfl hl (by decide) rfl (fun ls hl => ?_)
  refine lv_iload_n hx hb dX7_failWith_10 rfl (lv_at hl 0 rfl) ?_
  refine lv_if_lt (tgt := 29) hx hb dX7_failWith_11 (by decide) (fun c2 => ?_) (fun c2 => ?_)
  · skip
    rw [if_pos c2] at hJ
    rw [if_pos c2] at hV
    refine lv_iload_n hx hb dX7_failWith_29 rfl (lv_at hl 2 rfl) ?_
    exact W.iret hx hb hr (fun t ht hW => ⟨⟨_, _, rfl, hJ.trans hE.symm, by rw [ht]; exact hP, va_K.moved hW.alike hK, hD⟩, hS.F ht⟩) hS.2.2 dX7_failWith_30
  · skip
    rw [if_neg c2] at hJ
    rw [if_neg c2] at hV
    refine lv_iload_n hx hb dX7_failWith_14 rfl (lv_at hl 0 rfl) ?_
    refine lv_iconst (v := (5 : Int32)) hx hb dX7_failWith_15 (by decide) ?_
    refine lv_icmp_ge (tgt := 29) hx hb dX7_failWith_16 (by decide) (fun c3 => ?_) (fun c3 => ?_)
    · skip
      rw [if_pos c3] at hJ
      rw [if_pos c3] at hV
      refine lv_iload_n hx hb dX7_failWith_29 rfl (lv_at hl 2 rfl) ?_
      exact W.iret hx hb hr (fun t ht hW => ⟨⟨_, _, rfl, hJ.trans hE.symm, by rw [ht]; exact hP, va_K.moved hW.alike hK, hD⟩, hS.F ht⟩) hS.2.2 dX7_failWith_30
    · skip
      rw [if_neg c3] at hJ
      rw [if_neg c3] at hV
      refine lv_aload_n hx hb dX7_failWith_19 rfl (lv_at hl 1 rfl) ?_
      refine va_get (D := (dC, dI)) (ci := 5) (v := .ref (ad 6)) (C := RX7) (T := TX7) (N := 10) (fs := (cx_f ad (t_fl o a1))) hx hb hts hi_wsX70 hown hK hP 0 (wx_h (o := (t_fl o a1)) rfl) rfl 9 (by decide) (hts (.fieldLink RX7 47 "OrreryDials" "failureCounts" "[I") (by decide +kernel)) (fun _ h9 => h9) rfl dX7_failWith_20 ?_
      refine lv_iload_n hx hb dX7_failWith_23 rfl (lv_at hl 0 rfl) ?_
      refine lv_dup2_11 hx hb dX7_failWith_24 rfl rfl ?_
      obtain ⟨hk4, hV⟩ := hV
      refine va_iald hx hb hK hP 6 0 (wx_h (o := (t_fl o a1)) rfl) rfl hk4 dX7_failWith_25 ?_
      refine lv_iconst (v := (1 : Int32)) hx hb dX7_failWith_26 (by decide) ?_
      refine lv_iadd hx hb dX7_failWith_27 ?_
      obtain ⟨hk5, hV⟩ := hV
      refine va_iast hx hb hK hP hD hS 6 0 (wx_h (o := (t_fl o a1)) rfl) rfl hk5 dX7_failWith_28 (fun H locs hP hD hS => ?_)
      rw [wx_a_cn] at hP hD
      obtain ⟨o6, eo6⟩ : ∃ z, z = (t_cn (t_fl o a1) (upd (c_cn (t_fl o a1)) y1.toNatClampNeg ((c_cn (t_fl o a1) y1.toNatClampNeg) + (1 : Int32)))) := ⟨_, rfl⟩
      rw [← eo6] at hP hD hJ hV
      rw [jX7_failWith_o6] at hJ
      rw [sX7_failWith_o6] at hV
      have hV := hV.2
      refine lv_iload_n hx hb dX7_failWith_29 rfl (lv_at hl 2 rfl) ?_
      exact W.iret hx hb hr (fun t ht hW => ⟨⟨_, _, rfl, hJ.trans hE.symm, by rw [ht]; exact hP, va_K.moved hW.alike hK, hD⟩, hS.F ht⟩) hS.2.2 dX7_failWith_30
def jX7_dialAt (o : Os) (a1 : Int32) : Option Nat := (if a1 < 0 then none else (if (nI (c_nd o)) ≤ a1 then none else (some a1.toNatClampNeg)))
def sX7_dialAt (o : Os) (a1 : Int32) : Prop := True ∧ (if a1 < 0 then True else (if (nI (c_nd o)) ≤ a1 then True else (vp_in a1 12 ∧ (a1.toNatClampNeg < c_nd o ∧ True))))
set_option linter.constructorNameAsVariable false in
set_option maxHeartbeats 8000000 in
set_option maxRecDepth 100000 in
theorem qX7_dialAt (l : Launch) (dC : Nat → ClassId) (dI : Nat → Nat → Nat) (cy : Nat → ClassId) (x : Nat) (ad : Nat → Nat) (sz : Nat) (o : Os) (a1 : Int32) (hV : sX7_dialAt o a1) : Met l yX7_dialAt wsX7_dialAt ({ frames := 0, cells := 0, slots := 0, locals := 0 }) (va_Pc [.ref x, .int a1] (wI (dC, dI) (tyA cy) (WX cy x ad o) sz)) (va_Sq (fun r => r = (jX7_dialAt o a1).map (fun i => ad (100 + i)))) 0 0 (fun _ => False) := by
  refine Met.ofW (cc := cX7_dialAt) (maxL := 2) (ret := (some (.object "OrreryDials$Dial"))) (by decide) rfl ?_
  intro p e s m args below meth c s₁ B hml hv
  obtain ⟨rfl, hsz, hP, hK, hD0, hk⟩ := hv
  have hx := B.exec
  have hb := B.bytes
  have hr := B.returns
  have hts := atoms_spec (ws := wsX7_dialAt) B.pre
  have hown : s.vm.findClass RX7 = some m.cls := findClass_of_methodNamed B.named
  have hlocks := B.notSynchronized
  subst hsz
  have hD := hD0
  obtain ⟨H, hHe⟩ : ∃ H, s.heap = H := ⟨_, rfl⟩
  have hP : va_P (dC, dI) vwCl (WX cy x ad o) H := by rw [← hHe]; exact hP
  rw [w_heap hHe]
  have hi_wsX70 : ∀ w ∈ wsX70, w ∈ wsX7_dialAt := fun _ h => List.mem_cons_of_mem _ (List.mem_append_right _ h)
  obtain ⟨JR, hE⟩ : ∃ q, jX7_dialAt o a1 = q := ⟨_, rfl⟩
  have hJ := hE
  rw [jX7_dialAt] at hJ
  rw [sX7_dialAt] at hV
  have hV := hV.2
  have hl := lv_entry ([.ref x, .int a1]) (n := 2) (Nat.le_of_ble_eq_true rfl)
  rw [lg_entry_eq]
  generalize (lg_sl ([.ref x, .int a1]) ++ List.replicate (2 - (lg_sl ([.ref x, .int a1])).length) Slot.unset).toArray = ls at hl ⊢
  have hl : lv_has ls 2 [(0, .ref x), (1, .int a1)] := hl
  refine lv_iload_n hx hb dX7_dialAt_0 rfl (lv_at hl 1 rfl) ?_
  refine lv_if_lt (tgt := 21) hx hb dX7_dialAt_1 (by decide) (fun c1 => ?_) (fun c1 => ?_)
  · skip
    rw [if_pos c1] at hJ
    rw [if_pos c1] at hV
    refine lv_null hx hb dX7_dialAt_21 ?_
    exact W.aret (v := .null) hx hb hr (Or.inl ⟨_, rfl⟩) (Or.inl rfl) (fun t ht hW => ⟨none, rfl, by rw [hE, ← hJ]; rfl, ht.trans hHe.symm⟩) (fun q h => absurd h List.not_mem_nil) dX7_dialAt_22
  · skip
    rw [if_neg c1] at hJ
    rw [if_neg c1] at hV
    refine lv_iload_n hx hb dX7_dialAt_4 rfl (lv_at hl 1 rfl) ?_
    refine lv_aload_n hx hb dX7_dialAt_5 rfl (lv_at hl 0 rfl) ?_
    refine va_get (D := (dC, dI)) (ci := 5) (v := .int (nI (c_nd o))) (C := RX7) (T := TX7) (N := 10) (fs := (cx_f ad o)) hx hb hts hi_wsX70 hown hK hP 0 (wx_h (o := o) rfl) rfl 1 (by decide) (hts (.fieldLink RX7 15 "OrreryDials" "dialCount" "I") (by decide +kernel)) (fun _ h9 => h9) rfl dX7_dialAt_6 ?_
    refine lv_icmp_ge (tgt := 21) hx hb dX7_dialAt_9 (by decide) (fun c2 => ?_) (fun c2 => ?_)
    · skip
      rw [if_pos c2] at hJ
      rw [if_pos c2] at hV
      refine lv_null hx hb dX7_dialAt_21 ?_
      exact W.aret (v := .null) hx hb hr (Or.inl ⟨_, rfl⟩) (Or.inl rfl) (fun t ht hW => ⟨none, rfl, by rw [hE, ← hJ]; rfl, ht.trans hHe.symm⟩) (fun q h => absurd h List.not_mem_nil) dX7_dialAt_22
    · skip
      rw [if_neg c2] at hJ
      rw [if_neg c2] at hV
      refine lv_aload_n hx hb dX7_dialAt_12 rfl (lv_at hl 0 rfl) ?_
      refine va_get (D := (dC, dI)) (ci := 5) (v := .ref (ad 1)) (C := RX7) (T := TX7) (N := 10) (fs := (cx_f ad o)) hx hb hts hi_wsX70 hown hK hP 0 (wx_h (o := o) rfl) rfl 0 (by decide) (hts (.fieldLink RX7 11 "OrreryDials" "dials" "[LOrreryDials$Dial;") (by decide +kernel)) (fun _ h9 => h9) rfl dX7_dialAt_13 ?_
      refine lv_iload_n hx hb dX7_dialAt_16 rfl (lv_at hl 1 rfl) ?_
      obtain ⟨hk3, hV⟩ := hV
      refine va_aldq hx hb hK hP 1 5 (wx_h (o := o) rfl) rfl hk3 dX7_dialAt_17 ?_
      obtain ⟨hk4, hV⟩ := hV
      refine rf_s (show cx_dr ad o a1.toNatClampNeg = some (ad (100 + a1.toNatClampNeg)) from if_pos hk4) ?_
      refine lv_goto (tgt := 22) hx hb dX7_dialAt_18 (by decide) ?_
      exact W.aret (v := .ref (ad (100 + a1.toNatClampNeg))) hx hb hr (Or.inl ⟨_, rfl⟩) (Or.inr ⟨_, rfl⟩) (fun t ht hW => ⟨some _, rfl, by rw [hE, ← hJ]; rfl, ht.trans hHe.symm⟩) (fun q h => absurd h List.not_mem_nil) dX7_dialAt_22
def jX7_driveAt (o : Os) (a1 : Int32) : Option Nat := (if a1 < 0 then none else (if (nI (c_nv o)) ≤ a1 then none else (some a1.toNatClampNeg)))
def sX7_driveAt (o : Os) (a1 : Int32) : Prop := True ∧ (if a1 < 0 then True else (if (nI (c_nv o)) ≤ a1 then True else (vp_in a1 20 ∧ (a1.toNatClampNeg < c_nv o ∧ True))))
set_option linter.constructorNameAsVariable false in
set_option maxHeartbeats 8000000 in
set_option maxRecDepth 100000 in
theorem qX7_driveAt (l : Launch) (dC : Nat → ClassId) (dI : Nat → Nat → Nat) (cy : Nat → ClassId) (x : Nat) (ad : Nat → Nat) (sz : Nat) (o : Os) (a1 : Int32) (hV : sX7_driveAt o a1) : Met l yX7_driveAt wsX7_driveAt ({ frames := 0, cells := 0, slots := 0, locals := 0 }) (va_Pc [.ref x, .int a1] (wI (dC, dI) (tyA cy) (WX cy x ad o) sz)) (va_Sq (fun r => r = (jX7_driveAt o a1).map (fun i => ad (200 + i)))) 0 0 (fun _ => False) := by
  refine Met.ofW (cc := cX7_driveAt) (maxL := 2) (ret := (some (.object "OrreryDials$Drive"))) (by decide) rfl ?_
  intro p e s m args below meth c s₁ B hml hv
  obtain ⟨rfl, hsz, hP, hK, hD0, hk⟩ := hv
  have hx := B.exec
  have hb := B.bytes
  have hr := B.returns
  have hts := atoms_spec (ws := wsX7_driveAt) B.pre
  have hown : s.vm.findClass RX7 = some m.cls := findClass_of_methodNamed B.named
  have hlocks := B.notSynchronized
  subst hsz
  have hD := hD0
  obtain ⟨H, hHe⟩ : ∃ H, s.heap = H := ⟨_, rfl⟩
  have hP : va_P (dC, dI) vwCl (WX cy x ad o) H := by rw [← hHe]; exact hP
  rw [w_heap hHe]
  have hi_wsX70 : ∀ w ∈ wsX70, w ∈ wsX7_driveAt := fun _ h => List.mem_cons_of_mem _ (List.mem_append_right _ h)
  obtain ⟨JR, hE⟩ : ∃ q, jX7_driveAt o a1 = q := ⟨_, rfl⟩
  have hJ := hE
  rw [jX7_driveAt] at hJ
  rw [sX7_driveAt] at hV
  have hV := hV.2
  have hl := lv_entry ([.ref x, .int a1]) (n := 2) (Nat.le_of_ble_eq_true rfl)
  rw [lg_entry_eq]
  generalize (lg_sl ([.ref x, .int a1]) ++ List.replicate (2 - (lg_sl ([.ref x, .int a1])).length) Slot.unset).toArray = ls at hl ⊢
  have hl : lv_has ls 2 [(0, .ref x), (1, .int a1)] := hl
  refine lv_iload_n hx hb dX7_driveAt_0 rfl (lv_at hl 1 rfl) ?_
  refine lv_if_lt (tgt := 21) hx hb dX7_driveAt_1 (by decide) (fun c1 => ?_) (fun c1 => ?_)
  · skip
    rw [if_pos c1] at hJ
    rw [if_pos c1] at hV
    refine lv_null hx hb dX7_driveAt_21 ?_
    exact W.aret (v := .null) hx hb hr (Or.inl ⟨_, rfl⟩) (Or.inl rfl) (fun t ht hW => ⟨none, rfl, by rw [hE, ← hJ]; rfl, ht.trans hHe.symm⟩) (fun q h => absurd h List.not_mem_nil) dX7_driveAt_22
  · skip
    rw [if_neg c1] at hJ
    rw [if_neg c1] at hV
    refine lv_iload_n hx hb dX7_driveAt_4 rfl (lv_at hl 1 rfl) ?_
    refine lv_aload_n hx hb dX7_driveAt_5 rfl (lv_at hl 0 rfl) ?_
    refine va_get (D := (dC, dI)) (ci := 5) (v := .int (nI (c_nv o))) (C := RX7) (T := TX7) (N := 10) (fs := (cx_f ad o)) hx hb hts hi_wsX70 hown hK hP 0 (wx_h (o := o) rfl) rfl 3 (by decide) (hts (.fieldLink RX7 25 "OrreryDials" "driveCount" "I") (by decide +kernel)) (fun _ h9 => h9) rfl dX7_driveAt_6 ?_
    refine lv_icmp_ge (tgt := 21) hx hb dX7_driveAt_9 (by decide) (fun c2 => ?_) (fun c2 => ?_)
    · skip
      rw [if_pos c2] at hJ
      rw [if_pos c2] at hV
      refine lv_null hx hb dX7_driveAt_21 ?_
      exact W.aret (v := .null) hx hb hr (Or.inl ⟨_, rfl⟩) (Or.inl rfl) (fun t ht hW => ⟨none, rfl, by rw [hE, ← hJ]; rfl, ht.trans hHe.symm⟩) (fun q h => absurd h List.not_mem_nil) dX7_driveAt_22
    · skip
      rw [if_neg c2] at hJ
      rw [if_neg c2] at hV
      refine lv_aload_n hx hb dX7_driveAt_12 rfl (lv_at hl 0 rfl) ?_
      refine va_get (D := (dC, dI)) (ci := 5) (v := .ref (ad 2)) (C := RX7) (T := TX7) (N := 10) (fs := (cx_f ad o)) hx hb hts hi_wsX70 hown hK hP 0 (wx_h (o := o) rfl) rfl 2 (by decide) (hts (.fieldLink RX7 21 "OrreryDials" "drives" "[LOrreryDials$Drive;") (by decide +kernel)) (fun _ h9 => h9) rfl dX7_driveAt_13 ?_
      refine lv_iload_n hx hb dX7_driveAt_16 rfl (lv_at hl 1 rfl) ?_
      obtain ⟨hk3, hV⟩ := hV
      refine va_aldq hx hb hK hP 2 6 (wx_h (o := o) rfl) rfl hk3 dX7_driveAt_17 ?_
      obtain ⟨hk4, hV⟩ := hV
      refine rf_s (show cx_vr ad o a1.toNatClampNeg = some (ad (200 + a1.toNatClampNeg)) from if_pos hk4) ?_
      refine lv_goto (tgt := 22) hx hb dX7_driveAt_18 (by decide) ?_
      exact W.aret (v := .ref (ad (200 + a1.toNatClampNeg))) hx hb hr (Or.inl ⟨_, rfl⟩) (Or.inr ⟨_, rfl⟩) (fun t ht hW => ⟨some _, rfl, by rw [hE, ← hJ]; rfl, ht.trans hHe.symm⟩) (fun q h => absurd h List.not_mem_nil) dX7_driveAt_22
def jX7_rowAt_y3 (o : Os) (a1 : Int32) (a2 : Int32) (y3 : Int32) : Option Nat := (some (((2 : Int32) * a1) + y3).toNatClampNeg)
def sX7_rowAt_y3 (o : Os) (a1 : Int32) (a2 : Int32) (y3 : Int32) : Prop := True ∧ (vp_in (((2 : Int32) * a1) + y3) 16 ∧ True)
def jX7_rowAt (o : Os) (a1 : Int32) (a2 : Int32) : Option Nat := (if a1 < 0 then none else (if a1 < (8 : Int32) then (jX7_rowAt_y3 o a1 a2 (if a2 = 0 then (0 : Int32) else (1 : Int32))) else none))
def sX7_rowAt (o : Os) (a1 : Int32) (a2 : Int32) : Prop := True ∧ (if a1 < 0 then True else (if a1 < (8 : Int32) then (sX7_rowAt_y3 o a1 a2 (if a2 = 0 then (0 : Int32) else (1 : Int32))) else True))
set_option linter.constructorNameAsVariable false in
set_option maxHeartbeats 8000000 in
set_option maxRecDepth 100000 in
theorem qX7_rowAt (l : Launch) (dC : Nat → ClassId) (dI : Nat → Nat → Nat) (cy : Nat → ClassId) (x : Nat) (ad : Nat → Nat) (sz : Nat) (o : Os) (a1 : Int32) (a2 : Int32) (hV : sX7_rowAt o a1 a2) : Met l yX7_rowAt wsX7_rowAt ({ frames := 0, cells := 0, slots := 0, locals := 0 }) (va_Pc [.ref x, .int a1, .int a2] (wI (dC, dI) (tyA cy) (WX cy x ad o) sz)) (va_Sq (fun r => r = (jX7_rowAt o a1 a2).map (fun i => ad (300 + i)))) 0 0 (fun _ => False) := by
  refine Met.ofW (cc := cX7_rowAt) (maxL := 3) (ret := (some (.object "OrreryDials$Row"))) (by decide) rfl ?_
  intro p e s m args below meth c s₁ B hml hv
  obtain ⟨rfl, hsz, hP, hK, hD0, hk⟩ := hv
  have hx := B.exec
  have hb := B.bytes
  have hr := B.returns
  have hts := atoms_spec (ws := wsX7_rowAt) B.pre
  have hown : s.vm.findClass RX7 = some m.cls := findClass_of_methodNamed B.named
  have hlocks := B.notSynchronized
  subst hsz
  have hD := hD0
  obtain ⟨H, hHe⟩ : ∃ H, s.heap = H := ⟨_, rfl⟩
  have hP : va_P (dC, dI) vwCl (WX cy x ad o) H := by rw [← hHe]; exact hP
  rw [w_heap hHe]
  have hi_wsX70 : ∀ w ∈ wsX70, w ∈ wsX7_rowAt := fun _ h => List.mem_cons_of_mem _ (List.mem_append_right _ h)
  obtain ⟨JR, hE⟩ : ∃ q, jX7_rowAt o a1 a2 = q := ⟨_, rfl⟩
  have hJ := hE
  rw [jX7_rowAt] at hJ
  rw [sX7_rowAt] at hV
  have hV := hV.2
  have hl := lv_entry ([.ref x, .int a1, .int a2]) (n := 3) (Nat.le_of_ble_eq_true rfl)
  rw [lg_entry_eq]
  generalize (lg_sl ([.ref x, .int a1, .int a2]) ++ List.replicate (3 - (lg_sl ([.ref x, .int a1, .int a2])).length) Slot.unset).toArray = ls at hl ⊢
  have hl : lv_has ls 3 [(0, .ref x), (1, .int a1), (2, .int a2)] := hl
  refine lv_iload_n hx hb dX7_rowAt_0 rfl (lv_at hl 1 rfl) ?_
  refine lv_if_lt (tgt := 10) hx hb dX7_rowAt_1 (by decide) (fun c1 => ?_) (fun c1 => ?_)
  · skip
    rw [if_pos c1] at hJ
    rw [if_pos c1] at hV
    refine lv_null hx hb dX7_rowAt_10 ?_
    exact W.aret (v := .null) hx hb hr (Or.inl ⟨_, rfl⟩) (Or.inl rfl) (fun t ht hW => ⟨none, rfl, by rw [hE, ← hJ]; rfl, ht.trans hHe.symm⟩) (fun q h => absurd h List.not_mem_nil) dX7_rowAt_11
  · skip
    rw [if_neg c1] at hJ
    rw [if_neg c1] at hV
    refine lv_iload_n hx hb dX7_rowAt_4 rfl (lv_at hl 1 rfl) ?_
    refine lv_bipush (v := (8 : Int32)) hx hb dX7_rowAt_5 (by decide) ?_
    refine lv_icmp_lt (tgt := 12) hx hb dX7_rowAt_7 (by decide) (fun c2 => ?_) (fun c2 => ?_)
    · skip
      rw [if_pos c2] at hJ
      rw [if_pos c2] at hV
      refine lv_aload_n hx hb dX7_rowAt_12 rfl (lv_at hl 0 rfl) ?_
      refine va_get (D := (dC, dI)) (ci := 5) (v := .ref (ad 5)) (C := RX7) (T := TX7) (N := 10) (fs := (cx_f ad o)) hx hb hts hi_wsX70 hown hK hP 0 (wx_h (o := o) rfl) rfl 6 (by decide) (hts (.fieldLink RX7 36 "OrreryDials" "rows" "[LOrreryDials$Row;") (by decide +kernel)) (fun _ h9 => h9) rfl dX7_rowAt_13 ?_
      refine lv_iconst (v := (2 : Int32)) hx hb dX7_rowAt_16 (by decide) ?_
      refine lv_iload_n hx hb dX7_rowAt_17 rfl (lv_at hl 1 rfl) ?_
      refine lv_imul hx hb dX7_rowAt_18 ?_
      refine lv_iload_n hx hb dX7_rowAt_19 rfl (lv_at hl 2 rfl) ?_
      refine jn_i (J := 28) (ls := ls) (v := (if a2 = 0 then (0 : Int32) else (1 : Int32))) (rest := [.int ((2 : Int32) * a1), .ref (ad 5)]) ?_ (fun y3 ey3 => ?_)
      · intro hj
        refine lv_if_eq (tgt := 27) hx hb dX7_rowAt_20 (by decide) (fun c4 => ?_) (fun c4 => ?_)
        · skip
          rw [if_pos c4] at hj
          try rw [if_pos c4] at hv
          refine lv_iconst (v := (0 : Int32)) hx hb dX7_rowAt_27 (by decide) ?_
          exact hj
        · skip
          rw [if_neg c4] at hj
          try rw [if_neg c4] at hv
          refine lv_iconst (v := (1 : Int32)) hx hb dX7_rowAt_23 (by decide) ?_
          refine lv_goto (tgt := 28) hx hb dX7_rowAt_24 (by decide) ?_
          exact hj
      rw [← ey3] at hJ
      rw [jX7_rowAt_y3] at hJ
      rw [← ey3] at hV
      rw [sX7_rowAt_y3] at hV
      have hV := hV.2
      refine lv_iadd hx hb dX7_rowAt_28 ?_
      obtain ⟨hk5, hV⟩ := hV
      refine va_aldq hx hb hK hP 5 7 (wx_h (o := o) rfl) rfl hk5 dX7_rowAt_29 ?_
      refine rf_s (show cx_rr ad (((2 : Int32) * a1) + y3).toNatClampNeg = some (ad (300 + (((2 : Int32) * a1) + y3).toNatClampNeg)) from rfl) ?_
      exact W.aret (v := .ref (ad (300 + (((2 : Int32) * a1) + y3).toNatClampNeg))) hx hb hr (Or.inl ⟨_, rfl⟩) (Or.inr ⟨_, rfl⟩) (fun t ht hW => ⟨some _, rfl, by rw [hE, ← hJ]; rfl, ht.trans hHe.symm⟩) (fun q h => absurd h List.not_mem_nil) dX7_rowAt_30
    · skip
      rw [if_neg c2] at hJ
      rw [if_neg c2] at hV
      refine lv_null hx hb dX7_rowAt_10 ?_
      exact W.aret (v := .null) hx hb hr (Or.inl ⟨_, rfl⟩) (Or.inl rfl) (fun t ht hW => ⟨none, rfl, by rw [hE, ← hJ]; rfl, ht.trans hHe.symm⟩) (fun q h => absurd h List.not_mem_nil) dX7_rowAt_11
