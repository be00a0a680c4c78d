def jX8_isDial (o : Ms) (a1 : Int32) : Int32 := (jX8_in (a1.toInt64) (0 : Int64) (((m_dials o).toInt64) - (1 : Int64)))
set_option linter.constructorNameAsVariable false in
set_option maxHeartbeats 8000000 in
set_option maxRecDepth 100000 in
theorem qX8_isDial (l : Launch) (dC : Nat → ClassId) (dI : Nat → Nat → Nat) (cy : Nat → ClassId) (y : Nat) (bd : Nat → Nat) (sz : Nat) (o : Ms) (a1 : Int32) : Met l yX8_isDial wsX8_isDial ({ frames := 1, cells := 0, slots := 0, locals := 25 }) (va_Pc [.ref y, .int a1] (wI (dC, dI) (tyA cy) (WM cy y bd o) sz)) (vp_Si (fun r => r = jX8_isDial o a1)) 0 0 (fun _ => False) := by
  refine Met.ofW (cc := cX8_isDial) (maxL := 2) (ret := some .boolean) (by decide) rfl ?_
  intro p e s m args below meth c s₁ B hml hv
  obtain ⟨rfl, hsz, hP, hK, hD0, hk⟩ := hv
  have hx := B.exec
  have hb := B.bytes
  have hr := B.returns
  have hts := atoms_spec (ws := wsX8_isDial) B.pre
  have hown : s.vm.findClass RX8 = some m.cls := findClass_of_methodNamed B.named
  have hlocks := B.notSynchronized
  subst hsz
  have hD := hD0
  obtain ⟨H, hHe⟩ : ∃ H, s.heap = H := ⟨_, rfl⟩
  have hP : va_P (dC, dI) vwCl (WM cy y bd o) H := by rw [← hHe]; exact hP
  rw [w_heap hHe]
  have hi_wsX80 : ∀ w ∈ wsX80, w ∈ wsX8_isDial := fun _ h => List.mem_cons_of_mem _ (List.mem_append_right _ h)
  obtain ⟨JR, hE⟩ : ∃ q, jX8_isDial o a1 = q := ⟨_, rfl⟩
  have hJ := hE
  rw [jX8_isDial] at hJ
  have hl := lv_entry ([.ref y, .int a1]) (n := 2) (Nat.le_of_ble_eq_true rfl)
  rw [lg_entry_eq]
  generalize (lg_sl ([.ref y, .int a1]) ++ List.replicate (2 - (lg_sl ([.ref y, .int a1])).length) Slot.unset).toArray = ls at hl ⊢
  have hl : lv_has ls 2 [(0, .ref y), (1, .int a1)] := hl
  refine lv_iload_n hx hb dX8_isDial_0 rfl (lv_at hl 1 rfl) ?_
  refine lv_i2l (v := a1.toInt64) hx hb dX8_isDial_1 rfl ?_
  refine lv_lconst (v := (0 : Int64)) hx hb dX8_isDial_2 (by decide) ?_
  refine lv_aload_n hx hb dX8_isDial_3 rfl (lv_at hl 0 rfl) ?_
  refine va_get (D := (dC, dI)) (ci := 6) (v := .int (m_dials o)) (C := RX8) (T := TX8) (N := 20) (fs := wm_f bd o) hx hb hts hi_wsX80 hown hK hP 0 rfl rfl 0 (by decide) (hts (.fieldLink RX8 62 "OrreryDialsModel" "dials" "I") (by decide +kernel)) (fun _ h9 => h9) rfl dX8_isDial_4 ?_
  refine lv_i2l (v := (m_dials o).toInt64) hx hb dX8_isDial_7 rfl ?_
  refine lv_lconst (v := (1 : Int64)) hx hb dX8_isDial_8 (by decide) ?_
  refine lv_lsub hx hb dX8_isDial_9 ?_
  refine vp_callSi (W.runS (As := [.long (a1.toInt64), .long (0 : Int64), .long (((m_dials o).toInt64) - (1 : Int64))]) (rest := []) ⟨hx, hb, hml, hown, hts⟩ (qX8_in l (a1.toInt64) (0 : Int64) (((m_dials o).toInt64) - (1 : Int64))) (va_cwS 3 hts gX8_isDial_X8_in rfl rfl rfl (by decide +kernel) ⟨Nat.le_of_ble_eq_true rfl, Nat.le_of_ble_eq_true rfl⟩) ⟨fun _ _ _ _ q => q, fun U hU hW => rfl⟩ rfl rfl hl.1 rfl (lv_room (Nat.le_of_ble_eq_true rfl)) dX8_isDial_10 ⟨Nat.le_of_ble_eq_true rfl, Nat.le_of_ble_eq_true rfl⟩) (fun r hq9 => ?_)
  rw [hq9]
  exact W.zret hx hb hr (narrow_bool (bX8_in (a1.toInt64) (0 : Int64) (((m_dials o).toInt64) - (1 : Int64)))) (fun t ht hW => ⟨_, rfl, hJ.trans hE.symm, ht.trans hHe.symm⟩) (fun q h => absurd h List.not_mem_nil) dX8_isDial_13
theorem bX8_isDial (o : Ms) (a1 : Int32) : (jX8_isDial o a1) = 0 ∨ (jX8_isDial o a1) = 1 := by
  unfold jX8_isDial
  exact (bX8_in (a1.toInt64) (0 : Int64) (((m_dials o).toInt64) - (1 : Int64)))
def jX8_dial_o20 (o : Ms) (a1 : Int32) (a2 : Int64) (y7 : UInt32) (o11 : Ms) (y12 : UInt64) (o17 : Ms) (o20 : Ms) : Int32 × Ms := (((m_dials (s_dials o20 ((m_dials o20) + (1 : Int32)))) - (1 : Int32)), (s_dials o20 ((m_dials o20) + (1 : Int32))))
def sX8_dial_o20 (o : Ms) (a1 : Int32) (a2 : Int64) (y7 : UInt32) (o11 : Ms) (y12 : UInt64) (o17 : Ms) (o20 : Ms) : Prop := True ∧ True
def jX8_dial_o17 (o : Ms) (a1 : Int32) (a2 : Int64) (y7 : UInt32) (o11 : Ms) (y12 : UInt64) (o17 : Ms) : Int32 × Ms := (jX8_dial_o20 o a1 a2 y7 o11 y12 o17 (s_lapsOf (s_placeD o17 (vf_upd (m_placeD o17) (m_dials o17).toNatClampNeg FP.dconst0)) (vp_updL (m_lapsOf (s_placeD o17 (vf_upd (m_placeD o17) (m_dials o17).toNatClampNeg FP.dconst0))) (m_dials (s_placeD o17 (vf_upd (m_placeD o17) (m_dials o17).toNatClampNeg FP.dconst0))).toNatClampNeg (0 : Int64))))
def sX8_dial_o17 (o : Ms) (a1 : Int32) (a2 : Int64) (y7 : UInt32) (o11 : Ms) (y12 : UInt64) (o17 : Ms) : Prop := True ∧ (vp_in (m_dials o17) 12 ∧ (vp_in (m_dials (s_placeD o17 (vf_upd (m_placeD o17) (m_dials o17).toNatClampNeg FP.dconst0))) 12 ∧ (sX8_dial_o20 o a1 a2 y7 o11 y12 o17 (s_lapsOf (s_placeD o17 (vf_upd (m_placeD o17) (m_dials o17).toNatClampNeg FP.dconst0)) (vp_updL (m_lapsOf (s_placeD o17 (vf_upd (m_placeD o17) (m_dials o17).toNatClampNeg FP.dconst0))) (m_dials (s_placeD o17 (vf_upd (m_placeD o17) (m_dials o17).toNatClampNeg FP.dconst0))).toNatClampNeg (0 : Int64))))))
def jX8_dial_y12 (o : Ms) (a1 : Int32) (a2 : Int64) (y7 : UInt32) (o11 : Ms) (y12 : UInt64) : Int32 × Ms := (jX8_dial_o17 o a1 a2 y7 o11 y12 (s_placeF (s_rimD o11 (vf_upd (m_rimD o11) (m_dials o11).toNatClampNeg y12)) (vf_upd (m_placeF (s_rimD o11 (vf_upd (m_rimD o11) (m_dials o11).toNatClampNeg y12))) (m_dials (s_rimD o11 (vf_upd (m_rimD o11) (m_dials o11).toNatClampNeg y12))).toNatClampNeg FP.fconst0)))
def sX8_dial_y12 (o : Ms) (a1 : Int32) (a2 : Int64) (y7 : UInt32) (o11 : Ms) (y12 : UInt64) : Prop := True ∧ (vp_in (m_dials o11) 12 ∧ (vp_in (m_dials (s_rimD o11 (vf_upd (m_rimD o11) (m_dials o11).toNatClampNeg y12))) 12 ∧ (sX8_dial_o17 o a1 a2 y7 o11 y12 (s_placeF (s_rimD o11 (vf_upd (m_rimD o11) (m_dials o11).toNatClampNeg y12)) (vf_upd (m_placeF (s_rimD o11 (vf_upd (m_rimD o11) (m_dials o11).toNatClampNeg y12))) (m_dials (s_rimD o11 (vf_upd (m_rimD o11) (m_dials o11).toNatClampNeg y12))).toNatClampNeg FP.fconst0)))))
def jX8_dial_o11 (o : Ms) (a1 : Int32) (a2 : Int64) (y7 : UInt32) (o11 : Ms) : Int32 × Ms := (jX8_dial_y12 o a1 a2 y7 o11 (if a1 = 0 then FP.dconst1 else (jX8_doubleOf a2)))
def sX8_dial_o11 (o : Ms) (a1 : Int32) (a2 : Int64) (y7 : UInt32) (o11 : Ms) : Prop := True ∧ ((if a1 = 0 then True else (sX8_doubleOf a2 ∧ True)) ∧ (sX8_dial_y12 o a1 a2 y7 o11 (if a1 = 0 then FP.dconst1 else (jX8_doubleOf a2))))
def jX8_dial_y7 (o : Ms) (a1 : Int32) (a2 : Int64) (y7 : UInt32) : Int32 × Ms := (jX8_dial_o11 o a1 a2 y7 (s_rimF (s_isFine o (upd (m_isFine o) (m_dials o).toNatClampNeg (vp_nar .boolean a1))) (vf_upd (m_rimF (s_isFine o (upd (m_isFine o) (m_dials o).toNatClampNeg (vp_nar .boolean a1)))) (m_dials (s_isFine o (upd (m_isFine o) (m_dials o).toNatClampNeg (vp_nar .boolean a1)))).toNatClampNeg y7)))
def sX8_dial_y7 (o : Ms) (a1 : Int32) (a2 : Int64) (y7 : UInt32) : Prop := True ∧ (vp_in (m_dials (s_isFine o (upd (m_isFine o) (m_dials o).toNatClampNeg (vp_nar .boolean a1)))) 12 ∧ (sX8_dial_o11 o a1 a2 y7 (s_rimF (s_isFine o (upd (m_isFine o) (m_dials o).toNatClampNeg (vp_nar .boolean a1))) (vf_upd (m_rimF (s_isFine o (upd (m_isFine o) (m_dials o).toNatClampNeg (vp_nar .boolean a1)))) (m_dials (s_isFine o (upd (m_isFine o) (m_dials o).toNatClampNeg (vp_nar .boolean a1)))).toNatClampNeg y7))))
def jX8_dial_o38 (o : Ms) (a1 : Int32) (a2 : Int64) (y25 : UInt32) (o29 : Ms) (y30 : UInt64) (o35 : Ms) (o38 : Ms) : Int32 × Ms := (((m_dials (s_dials o38 ((m_dials o38) + (1 : Int32)))) - (1 : Int32)), (s_dials o38 ((m_dials o38) + (1 : Int32))))
def sX8_dial_o38 (o : Ms) (a1 : Int32) (a2 : Int64) (y25 : UInt32) (o29 : Ms) (y30 : UInt64) (o35 : Ms) (o38 : Ms) : Prop := True ∧ True
def jX8_dial_o35 (o : Ms) (a1 : Int32) (a2 : Int64) (y25 : UInt32) (o29 : Ms) (y30 : UInt64) (o35 : Ms) : Int32 × Ms := (jX8_dial_o38 o a1 a2 y25 o29 y30 o35 (s_lapsOf (s_placeD o35 (vf_upd (m_placeD o35) (m_dials o35).toNatClampNeg FP.dconst0)) (vp_updL (m_lapsOf (s_placeD o35 (vf_upd (m_placeD o35) (m_dials o35).toNatClampNeg FP.dconst0))) (m_dials (s_placeD o35 (vf_upd (m_placeD o35) (m_dials o35).toNatClampNeg FP.dconst0))).toNatClampNeg (0 : Int64))))
def sX8_dial_o35 (o : Ms) (a1 : Int32) (a2 : Int64) (y25 : UInt32) (o29 : Ms) (y30 : UInt64) (o35 : Ms) : Prop := True ∧ (vp_in (m_dials o35) 12 ∧ (vp_in (m_dials (s_placeD o35 (vf_upd (m_placeD o35) (m_dials o35).toNatClampNeg FP.dconst0))) 12 ∧ (sX8_dial_o38 o a1 a2 y25 o29 y30 o35 (s_lapsOf (s_placeD o35 (vf_upd (m_placeD o35) (m_dials o35).toNatClampNeg FP.dconst0)) (vp_updL (m_lapsOf (s_placeD o35 (vf_upd (m_placeD o35) (m_dials o35).toNatClampNeg FP.dconst0))) (m_dials (s_placeD o35 (vf_upd (m_placeD o35) (m_dials o35).toNatClampNeg FP.dconst0))).toNatClampNeg (0 : Int64))))))
def jX8_dial_y30 (o : Ms) (a1 : Int32) (a2 : Int64) (y25 : UInt32) (o29 : Ms) (y30 : UInt64) : Int32 × Ms := (jX8_dial_o35 o a1 a2 y25 o29 y30 (s_placeF (s_rimD o29 (vf_upd (m_rimD o29) (m_dials o29).toNatClampNeg y30)) (vf_upd (m_placeF (s_rimD o29 (vf_upd (m_rimD o29) (m_dials o29).toNatClampNeg y30))) (m_dials (s_rimD o29 (vf_upd (m_rimD o29) (m_dials o29).toNatClampNeg y30))).toNatClampNeg FP.fconst0)))
def sX8_dial_y30 (o : Ms) (a1 : Int32) (a2 : Int64) (y25 : UInt32) (o29 : Ms) (y30 : UInt64) : Prop := True ∧ (vp_in (m_dials o29) 12 ∧ (vp_in (m_dials (s_rimD o29 (vf_upd (m_rimD o29) (m_dials o29).toNatClampNeg y30))) 12 ∧ (sX8_dial_o35 o a1 a2 y25 o29 y30 (s_placeF (s_rimD o29 (vf_upd (m_rimD o29) (m_dials o29).toNatClampNeg y30)) (vf_upd (m_placeF (s_rimD o29 (vf_upd (m_rimD o29) (m_dials o29).toNatClampNeg y30))) (m_dials (s_rimD o29 (vf_upd (m_rimD o29) (m_dials o29).toNatClampNeg y30))).toNatClampNeg FP.fconst0)))))
def jX8_dial_o29 (o : Ms) (a1 : Int32) (a2 : Int64) (y25 : UInt32) (o29 : Ms) : Int32 × Ms := (jX8_dial_y30 o a1 a2 y25 o29 (if a1 = 0 then FP.dconst1 else (jX8_doubleOf a2)))
def sX8_dial_o29 (o : Ms) (a1 : Int32) (a2 : Int64) (y25 : UInt32) (o29 : Ms) : Prop := True ∧ ((if a1 = 0 then True else (sX8_doubleOf a2 ∧ True)) ∧ (sX8_dial_y30 o a1 a2 y25 o29 (if a1 = 0 then FP.dconst1 else (jX8_doubleOf a2))))
def jX8_dial_y25 (o : Ms) (a1 : Int32) (a2 : Int64) (y25 : UInt32) : Int32 × Ms := (jX8_dial_o29 o a1 a2 y25 (s_rimF (s_isFine o (upd (m_isFine o) (m_dials o).toNatClampNeg (vp_nar .boolean a1))) (vf_upd (m_rimF (s_isFine o (upd (m_isFine o) (m_dials o).toNatClampNeg (vp_nar .boolean a1)))) (m_dials (s_isFine o (upd (m_isFine o) (m_dials o).toNatClampNeg (vp_nar .boolean a1)))).toNatClampNeg y25)))
def sX8_dial_y25 (o : Ms) (a1 : Int32) (a2 : Int64) (y25 : UInt32) : Prop := True ∧ (vp_in (m_dials (s_isFine o (upd (m_isFine o) (m_dials o).toNatClampNeg (vp_nar .boolean a1)))) 12 ∧ (sX8_dial_o29 o a1 a2 y25 (s_rimF (s_isFine o (upd (m_isFine o) (m_dials o).toNatClampNeg (vp_nar .boolean a1))) (vf_upd (m_rimF (s_isFine o (upd (m_isFine o) (m_dials o).toNatClampNeg (vp_nar .boolean a1)))) (m_dials (s_isFine o (upd (m_isFine o) (m_dials o).toNatClampNeg (vp_nar .boolean a1)))).toNatClampNeg y25))))
def jX8_dial (o : Ms) (a1 : Int32) (a2 : Int64) : Int32 × Ms := (if (jX8_isFit a1 a2) = 0 then ((-102 : Int32), o) else (if a1 = 0 then (if (Op.cmpValue (FP.fcmp (jX8_floatOf a2) FP.fconst0) .l) = 0 then ((-102 : Int32), o) else (if (m_dials o) = (12 : Int32) then ((-103 : Int32), o) else (jX8_dial_y7 o a1 a2 (if a1 = 0 then (jX8_floatOf a2) else FP.fconst1)))) else (if (Op.cmpValue (FP.dcmp (jX8_doubleOf a2) FP.dconst0) .l) = 0 then ((-102 : Int32), o) else (if (m_dials o) = (12 : Int32) then ((-103 : Int32), o) else (jX8_dial_y25 o a1 a2 (if a1 = 0 then (jX8_floatOf a2) else FP.fconst1))))))
def sX8_dial (o : Ms) (a1 : Int32) (a2 : Int64) : Prop := True ∧ (if (jX8_isFit a1 a2) = 0 then True else (if a1 = 0 then (sX8_floatOf a2 ∧ (if (Op.cmpValue (FP.fcmp (jX8_floatOf a2) FP.fconst0) .l) = 0 then True else (if (m_dials o) = (12 : Int32) then True else (vp_in (m_dials o) 12 ∧ ((if a1 = 0 then (sX8_floatOf a2 ∧ True) else True) ∧ (sX8_dial_y7 o a1 a2 (if a1 = 0 then (jX8_floatOf a2) else FP.fconst1))))))) else (sX8_doubleOf a2 ∧ (if (Op.cmpValue (FP.dcmp (jX8_doubleOf a2) FP.dconst0) .l) = 0 then True else (if (m_dials o) = (12 : Int32) then True else (vp_in (m_dials o) 12 ∧ ((if a1 = 0 then (sX8_floatOf a2 ∧ True) else True) ∧ (sX8_dial_y25 o a1 a2 (if a1 = 0 then (jX8_floatOf a2) else FP.fconst1)))))))))
set_option linter.constructorNameAsVariable false in
set_option maxHeartbeats 8000000 in
set_option maxRecDepth 100000 in
theorem qX8_dial (l : Launch) (dC : Nat → ClassId) (dI : Nat → Nat → Nat) (cy : Nat → ClassId) (y : Nat) (bd : Nat → Nat) (sz : Nat) (o : Ms) (a1 : Int32) (a2 : Int64) (hV : sX8_dial o a1 a2) : Met l yX8_dial wsX8_dial ({ frames := 2, cells := 0, slots := 0, locals := 44 }) (va_Pc [.ref y, .int a1, .long a2] (wI (dC, dI) (tyA cy) (WM cy y bd o) sz)) (va_Qi (fun r u => (r, u) = jX8_dial o a1 a2) (fun u t => wO (dC, dI) (tyA cy) (va_A (WM cy y bd o) sz) (WM cy y bd u) t) (va_A (WM cy y bd o) sz)) 0 0 (va_A (WM cy y bd o) sz) := by
  refine Met.ofW (cc := cX8_dial) (maxL := 4) (ret := some .int) (by decide) rfl ?_
  intro p e s m args below meth c s₁ B hml hv
  obtain ⟨rfl, hsz, hP, hK, hD0, hk⟩ := hv
  have hx := B.exec
  have hb := B.bytes
  have hr := B.returns
  have hts := atoms_spec (ws := wsX8_dial) B.pre
  have hown : s.vm.findClass RX8 = some m.cls := findClass_of_methodNamed B.named
  have hlocks := B.notSynchronized
  subst hsz
  have hD := hD0.self (sz := s.heap.size)
  generalize hAe : va_A (WM cy y bd o) s.heap.size = A at hD ⊢
  have hA : ∀ q : Nat, s.heap.size ≤ q → A q := fun q h => by rw [← hAe]; exact Or.inr h
  obtain ⟨H, hHe⟩ : ∃ H, s.heap = H := ⟨_, rfl⟩
  have hP : va_P (dC, dI) vwCl (WM cy y bd o) H := by rw [← hHe]; exact hP
  have hS : va_S A s.heap H [] := by rw [← hHe]; exact va_S.rf
  rw [w_heap hHe]
  have hi_wsX80 : ∀ w ∈ wsX80, w ∈ wsX8_dial := fun _ h => List.mem_cons_of_mem _ (List.mem_append_right _ h)
  obtain ⟨JR, hE⟩ : ∃ q, jX8_dial o a1 a2 = q := ⟨_, rfl⟩
  have hJ := hE
  rw [jX8_dial] at hJ
  rw [sX8_dial] at hV
  have hV := hV.2
  have hl := lv_entry ([.ref y, .int a1, .long a2]) (n := 4) (Nat.le_of_ble_eq_true rfl)
  rw [lg_entry_eq]
  generalize (lg_sl ([.ref y, .int a1, .long a2]) ++ List.replicate (4 - (lg_sl ([.ref y, .int a1, .long a2])).length) Slot.unset).toArray = ls at hl ⊢
  have hl : lv_has ls 4 [(0, .ref y), (1, .int a1), (2, .long a2)] := hl
  refine lv_iload_n hx hb dX8_dial_0 rfl (lv_at hl 1 rfl) ?_
  refine lv_lload_n hx hb dX8_dial_1 rfl (lv_at hl 2 rfl) ?_
  refine vp_callSi (W.runS (As := [.int a1, .long a2]) (rest := []) ⟨hx, hb, hml, hown, hts⟩ (qX8_isFit l a1 a2) (va_cwS 2 hts gX8_dial_X8_isFit rfl rfl rfl (by decide +kernel) ⟨Nat.le_of_ble_eq_true rfl, Nat.le_of_ble_eq_true rfl⟩) ⟨fun _ _ _ _ q => q, fun U hU hW => rfl⟩ rfl rfl hl.1 rfl (lv_room (Nat.le_of_ble_eq_true rfl)) dX8_dial_2 ⟨Nat.le_of_ble_eq_true rfl, Nat.le_of_ble_eq_true rfl⟩) (fun r hq9 => ?_)
  rw [hq9]
  refine lv_if_eq (tgt := 33) hx hb dX8_dial_5 (by decide) (fun c1 => ?_) (fun c1 => ?_)
  · skip
    rw [if_pos c1] at hJ
    rw [if_pos c1] at hV
    refine lv_bipush (v := (-102 : Int32)) hx hb dX8_dial_33 (by decide) ?_
    exact W.iret hx hb hr (fun t ht hW => ⟨⟨_, _, rfl, hJ.trans hE.symm, by rw [ht]; exact hP, va_K.moved hW.alike hK, hD⟩, hS.F ht⟩) hS.2.2 dX8_dial_35
  · skip
    rw [if_neg c1] at hJ
    rw [if_neg c1] at hV
    refine lv_iload_n hx hb dX8_dial_8 rfl (lv_at hl 1 rfl) ?_
    refine lv_if_eq (tgt := 24) hx hb dX8_dial_9 (by decide) (fun c2 => ?_) (fun c2 => ?_)
    · skip
      rw [if_pos c2] at hJ
      rw [if_pos c2] at hV
      refine lv_lload_n hx hb dX8_dial_24 rfl (lv_at hl 2 rfl) ?_
      obtain ⟨hk3, hV⟩ := hV
      refine vp_callSf (W.runS (As := [.long a2]) (rest := []) ⟨hx, hb, hml, hown, hts⟩ (qX8_floatOf l a2 hk3) (va_cwS 1 hts gX8_dial_X8_floatOf rfl rfl rfl (by decide +kernel) ⟨Nat.le_of_ble_eq_true rfl, Nat.le_of_ble_eq_true rfl⟩) ⟨fun _ _ _ _ q => q, fun U hU hW => rfl⟩ rfl rfl hl.1 rfl (lv_room (Nat.le_of_ble_eq_true rfl)) dX8_dial_25 ⟨Nat.le_of_ble_eq_true rfl, Nat.le_of_ble_eq_true rfl⟩) (fun r hq9 => ?_)
      rw [hq9]
      refine lv_fconst0 hx hb dX8_dial_28 ?_
      refine lv_fcmp hx hb dX8_dial_29 ?_
      refine lv_if_ne (tgt := 36) hx hb dX8_dial_30 (by decide) (fun c4 => ?_) (fun c4 => ?_)
      · skip
        rw [if_neg c4] at hJ
        rw [if_neg c4] at hV
        refine lv_aload_n hx hb dX8_dial_36 rfl (lv_at hl 0 rfl) ?_
        refine va_get (D := (dC, dI)) (ci := 6) (v := .int (m_dials o)) (C := RX8) (T := TX8) (N := 20) (fs := wm_f bd o) hx hb hts hi_wsX80 hown hK hP 0 rfl rfl 0 (by decide) (hts (.fieldLink RX8 62 "OrreryDialsModel" "dials" "I") (by decide +kernel)) (fun _ h9 => h9) rfl dX8_dial_37 ?_
        refine lv_bipush (v := (12 : Int32)) hx hb dX8_dial_40 (by decide) ?_
        refine lv_icmp_ne (tgt := 48) hx hb dX8_dial_42 (by decide) (fun c5 => ?_) (fun c5 => ?_)
        · skip
          rw [if_neg c5] at hJ
          rw [if_neg c5] at hV
          refine lv_aload_n hx hb dX8_dial_48 rfl (lv_at hl 0 rfl) ?_
          refine va_get (D := (dC, dI)) (ci := 6) (v := .ref (bd 0)) (C := RX8) (T := TX8) (N := 20) (fs := wm_f bd o) hx hb hts hi_wsX80 hown hK hP 0 rfl rfl 1 (by decide) (hts (.fieldLink RX8 7 "OrreryDialsModel" "isFine" "[Z") (by decide +kernel)) (fun _ h9 => h9) rfl dX8_dial_49 ?_
          refine lv_aload_n hx hb dX8_dial_52 rfl (lv_at hl 0 rfl) ?_
          refine va_get (D := (dC, dI)) (ci := 6) (v := .int (m_dials o)) (C := RX8) (T := TX8) (N := 20) (fs := wm_f bd o) hx hb hts hi_wsX80 hown hK hP 0 rfl rfl 0 (by decide) (hts (.fieldLink RX8 62 "OrreryDialsModel" "dials" "I") (by decide +kernel)) (fun _ h9 => h9) rfl dX8_dial_53 ?_
          refine lv_iload_n hx hb dX8_dial_56 rfl (lv_at hl 1 rfl) ?_
          obtain ⟨hk6, hV⟩ := hV
          refine va_zast hx hb hK hP hD hS 1 2 rfl rfl hk6 dX8_dial_57 (fun H locs hP hD hS => ?_)
          rw [wm_a_isFine] at hP hD
          refine lv_aload_n hx hb dX8_dial_58 rfl (lv_at hl 0 rfl) ?_
          refine va_get (D := (dC, dI)) (ci := 6) (v := .ref (bd 1)) (C := RX8) (T := TX8) (N := 20) (fs := wm_f bd (s_isFine o (upd (m_isFine o) (m_dials o).toNatClampNeg (vp_nar .boolean a1)))) hx hb hts hi_wsX80 hown hK hP 0 rfl rfl 2 (by decide) (hts (.fieldLink RX8 13 "OrreryDialsModel" "rimF" "[F") (by decide +kernel)) (fun _ h9 => h9) rfl dX8_dial_59 ?_
          refine lv_aload_n hx hb dX8_dial_62 rfl (lv_at hl 0 rfl) ?_
          refine va_get (D := (dC, dI)) (ci := 6) (v := .int (m_dials (s_isFine o (upd (m_isFine o) (m_dials o).toNatClampNeg (vp_nar .boolean a1))))) (C := RX8) (T := TX8) (N := 20) (fs := wm_f bd (s_isFine o (upd (m_isFine o) (m_dials o).toNatClampNeg (vp_nar .boolean a1)))) hx hb hts hi_wsX80 hown hK hP 0 rfl rfl 0 (by decide) (hts (.fieldLink RX8 62 "OrreryDialsModel" "dials" "I") (by decide +kernel)) (fun _ h9 => h9) rfl dX8_dial_63 ?_
          refine lv_iload_n hx hb dX8_dial_66 rfl (lv_at hl 1 rfl) ?_
          obtain ⟨hv, hV⟩ := hV
          refine jn_f (J := 78) (ls := ls) (v := (if a1 = 0 then (jX8_floatOf a2) else FP.fconst1)) (rest := [.int (m_dials (s_isFine o (upd (m_isFine o) (m_dials o).toNatClampNeg (vp_nar .boolean a1)))), .ref (bd 1)]) ?_ (fun y7 ey7 => ?_)
          · intro hj
            refine lv_if_eq (tgt := 74) hx hb dX8_dial_67 (by decide) (fun c8 => ?_) (fun c8 => ?_)
            · skip
              rw [if_pos c8] at hj
              try rw [if_pos c8] at hv
              refine lv_lload_n hx hb dX8_dial_74 rfl (lv_at hl 2 rfl) ?_
              obtain ⟨hk9, hv⟩ := hv
              refine vp_callSf (W.runS (As := [.long a2]) (rest := [.int (m_dials (s_isFine o (upd (m_isFine o) (m_dials o).toNatClampNeg (vp_nar .boolean a1)))), .ref (bd 1)]) ⟨hx, hb, hml, hown, hts⟩ (qX8_floatOf l a2 hk9) (va_cwS 1 hts gX8_dial_X8_floatOf rfl rfl rfl (by decide +kernel) ⟨Nat.le_of_ble_eq_true rfl, Nat.le_of_ble_eq_true rfl⟩) ⟨fun _ _ _ _ q => q, fun U hU hW => rfl⟩ rfl rfl hl.1 rfl (lv_room (Nat.le_of_ble_eq_true rfl)) dX8_dial_75 ⟨Nat.le_of_ble_eq_true rfl, Nat.le_of_ble_eq_true rfl⟩) (fun r hq9 => ?_)
              rw [hq9]
              exact hj
            · skip
              rw [if_neg c8] at hj
              try rw [if_neg c8] at hv
              refine lv_fconst1 hx hb dX8_dial_70 ?_
              refine lv_goto (tgt := 78) hx hb dX8_dial_71 (by decide) ?_
              exact hj
          rw [← ey7] at hJ
          rw [jX8_dial_y7] at hJ
          rw [← ey7] at hV
          rw [sX8_dial_y7] at hV
          have hV := hV.2
          obtain ⟨hk10, hV⟩ := hV
          refine va_fast hx hb hK hP hD hS 2 3 rfl rfl hk10 dX8_dial_78 (fun H locs hP hD hS => ?_)
          rw [wm_a_rimF] at hP hD
          obtain ⟨o11, eo11⟩ : ∃ z, z = (s_rimF (s_isFine o (upd (m_isFine o) (m_dials o).toNatClampNeg (vp_nar .boolean a1))) (vf_upd (m_rimF (s_isFine o (upd (m_isFine o) (m_dials o).toNatClampNeg (vp_nar .boolean a1)))) (m_dials (s_isFine o (upd (m_isFine o) (m_dials o).toNatClampNeg (vp_nar .boolean a1)))).toNatClampNeg y7)) := ⟨_, rfl⟩
          rw [← eo11] at hP hD hJ hV
          rw [jX8_dial_o11] at hJ
          rw [sX8_dial_o11] at hV
          have hV := hV.2
          refine lv_aload_n hx hb dX8_dial_79 rfl (lv_at hl 0 rfl) ?_
          refine va_get (D := (dC, dI)) (ci := 6) (v := .ref (bd 3)) (C := RX8) (T := TX8) (N := 20) (fs := wm_f bd o11) hx hb hts hi_wsX80 hown hK hP 0 rfl rfl 4 (by decide) (hts (.fieldLink RX8 20 "OrreryDialsModel" "rimD" "[D") (by decide +kernel)) (fun _ h9 => h9) rfl dX8_dial_80 ?_
          refine lv_aload_n hx hb dX8_dial_83 rfl (lv_at hl 0 rfl) ?_
          refine va_get (D := (dC, dI)) (ci := 6) (v := .int (m_dials o11)) (C := RX8) (T := TX8) (N := 20) (fs := wm_f bd o11) hx hb hts hi_wsX80 hown hK hP 0 rfl rfl 0 (by decide) (hts (.fieldLink RX8 62 "OrreryDialsModel" "dials" "I") (by decide +kernel)) (fun _ h9 => h9) rfl dX8_dial_84 ?_
          refine lv_iload_n hx hb dX8_dial_87 rfl (lv_at hl 1 rfl) ?_
          obtain ⟨hv, hV⟩ := hV
          refine jn_d (J := 99) (ls := ls) (v := (if a1 = 0 then FP.dconst1 else (jX8_doubleOf a2))) (rest := [.int (m_dials o11), .ref (bd 3)]) ?_ (fun y12 ey12 => ?_)
          · intro hj
            refine lv_if_eq (tgt := 98) hx hb dX8_dial_88 (by decide) (fun c13 => ?_) (fun c13 => ?_)
            · skip
              rw [if_pos c13] at hj
              try rw [if_pos c13] at hv
              refine lv_dconst1 hx hb dX8_dial_98 ?_
              exact hj
            · skip
              rw [if_neg c13] at hj
              try rw [if_neg c13] at hv
              refine lv_lload_n hx hb dX8_dial_91 rfl (lv_at hl 2 rfl) ?_
              obtain ⟨hk14, hv⟩ := hv
              refine vp_callSd (W.runS (As := [.long a2]) (rest := [.int (m_dials o11), .ref (bd 3)]) ⟨hx, hb, hml, hown, hts⟩ (qX8_doubleOf l a2 hk14) (va_cwS 1 hts gX8_dial_X8_doubleOf rfl rfl rfl (by decide +kernel) ⟨Nat.le_of_ble_eq_true rfl, Nat.le_of_ble_eq_true rfl⟩) ⟨fun _ _ _ _ q => q, fun U hU hW => rfl⟩ rfl rfl hl.1 rfl (lv_room (Nat.le_of_ble_eq_true rfl)) dX8_dial_92 ⟨Nat.le_of_ble_eq_true rfl, Nat.le_of_ble_eq_true rfl⟩) (fun r hq9 => ?_)
              rw [hq9]
              refine lv_goto (tgt := 99) hx hb dX8_dial_95 (by decide) ?_
              exact hj
          rw [← ey12] at hJ
          rw [jX8_dial_y12] at hJ
          rw [← ey12] at hV
          rw [sX8_dial_y12] at hV
          have hV := hV.2
          obtain ⟨hk15, hV⟩ := hV
          refine va_dast hx hb hK hP hD hS 4 4 rfl rfl hk15 dX8_dial_99 (fun H locs hP hD hS => ?_)
          rw [wm_a_rimD] at hP hD
          refine lv_aload_n hx hb dX8_dial_100 rfl (lv_at hl 0 rfl) ?_
          refine va_get (D := (dC, dI)) (ci := 6) (v := .ref (bd 2)) (C := RX8) (T := TX8) (N := 20) (fs := wm_f bd (s_rimD o11 (vf_upd (m_rimD o11) (m_dials o11).toNatClampNeg y12))) hx hb hts hi_wsX80 hown hK hP 0 rfl rfl 3 (by decide) (hts (.fieldLink RX8 17 "OrreryDialsModel" "placeF" "[F") (by decide +kernel)) (fun _ h9 => h9) rfl dX8_dial_101 ?_
          refine lv_aload_n hx hb dX8_dial_104 rfl (lv_at hl 0 rfl) ?_
          refine va_get (D := (dC, dI)) (ci := 6) (v := .int (m_dials (s_rimD o11 (vf_upd (m_rimD o11) (m_dials o11).toNatClampNeg y12)))) (C := RX8) (T := TX8) (N := 20) (fs := wm_f bd (s_rimD o11 (vf_upd (m_rimD o11) (m_dials o11).toNatClampNeg y12))) hx hb hts hi_wsX80 hown hK hP 0 rfl rfl 0 (by decide) (hts (.fieldLink RX8 62 "OrreryDialsModel" "dials" "I") (by decide +kernel)) (fun _ h9 => h9) rfl dX8_dial_105 ?_
          refine lv_fconst0 hx hb dX8_dial_108 ?_
          obtain ⟨hk16, hV⟩ := hV
          refine va_fast hx hb hK hP hD hS 3 3 rfl rfl hk16 dX8_dial_109 (fun H locs hP hD hS => ?_)
          rw [wm_a_placeF] at hP hD
          obtain ⟨o17, eo17⟩ : ∃ z, z = (s_placeF (s_rimD o11 (vf_upd (m_rimD o11) (m_dials o11).toNatClampNeg y12)) (vf_upd (m_placeF (s_rimD o11 (vf_upd (m_rimD o11) (m_dials o11).toNatClampNeg y12))) (m_dials (s_rimD o11 (vf_upd (m_rimD o11) (m_dials o11).toNatClampNeg y12))).toNatClampNeg FP.fconst0)) := ⟨_, rfl⟩
          rw [← eo17] at hP hD hJ hV
          rw [jX8_dial_o17] at hJ
          rw [sX8_dial_o17] at hV
          have hV := hV.2
          refine lv_aload_n hx hb dX8_dial_110 rfl (lv_at hl 0 rfl) ?_
          refine va_get (D := (dC, dI)) (ci := 6) (v := .ref (bd 4)) (C := RX8) (T := TX8) (N := 20) (fs := wm_f bd o17) hx hb hts hi_wsX80 hown hK hP 0 rfl rfl 5 (by decide) (hts (.fieldLink RX8 24 "OrreryDialsModel" "placeD" "[D") (by decide +kernel)) (fun _ h9 => h9) rfl dX8_dial_111 ?_
          refine lv_aload_n hx hb dX8_dial_114 rfl (lv_at hl 0 rfl) ?_
          refine va_get (D := (dC, dI)) (ci := 6) (v := .int (m_dials o17)) (C := RX8) (T := TX8) (N := 20) (fs := wm_f bd o17) hx hb hts hi_wsX80 hown hK hP 0 rfl rfl 0 (by decide) (hts (.fieldLink RX8 62 "OrreryDialsModel" "dials" "I") (by decide +kernel)) (fun _ h9 => h9) rfl dX8_dial_115 ?_
          refine lv_dconst0 hx hb dX8_dial_118 ?_
          obtain ⟨hk18, hV⟩ := hV
          refine va_dast hx hb hK hP hD hS 5 4 rfl rfl hk18 dX8_dial_119 (fun H locs hP hD hS => ?_)
          rw [wm_a_placeD] at hP hD
          refine lv_aload_n hx hb dX8_dial_120 rfl (lv_at hl 0 rfl) ?_
          refine va_get (D := (dC, dI)) (ci := 6) (v := .ref (bd 5)) (C := RX8) (T := TX8) (N := 20) (fs := wm_f bd (s_placeD o17 (vf_upd (m_placeD o17) (m_dials o17).toNatClampNeg FP.dconst0))) hx hb hts hi_wsX80 hown hK hP 0 rfl rfl 6 (by decide) (hts (.fieldLink RX8 27 "OrreryDialsModel" "lapsOf" "[J") (by decide +kernel)) (fun _ h9 => h9) rfl dX8_dial_121 ?_
          refine lv_aload_n hx hb dX8_dial_124 rfl (lv_at hl 0 rfl) ?_
          refine va_get (D := (dC, dI)) (ci := 6) (v := .int (m_dials (s_placeD o17 (vf_upd (m_placeD o17) (m_dials o17).toNatClampNeg FP.dconst0)))) (C := RX8) (T := TX8) (N := 20) (fs := wm_f bd (s_placeD o17 (vf_upd (m_placeD o17) (m_dials o17).toNatClampNeg FP.dconst0))) hx hb hts hi_wsX80 hown hK hP 0 rfl rfl 0 (by decide) (hts (.fieldLink RX8 62 "OrreryDialsModel" "dials" "I") (by decide +kernel)) (fun _ h9 => h9) rfl dX8_dial_125 ?_
          refine lv_lconst (v := (0 : Int64)) hx hb dX8_dial_128 (by decide) ?_
          obtain ⟨hk19, hV⟩ := hV
          refine va_last hx hb hK hP hD hS 6 1 rfl rfl hk19 dX8_dial_129 (fun H locs hP hD hS => ?_)
          rw [wm_a_lapsOf] at hP hD
          obtain ⟨o20, eo20⟩ : ∃ z, z = (s_lapsOf (s_placeD o17 (vf_upd (m_placeD o17) (m_dials o17).toNatClampNeg FP.dconst0)) (vp_updL (m_lapsOf (s_placeD o17 (vf_upd (m_placeD o17) (m_dials o17).toNatClampNeg FP.dconst0))) (m_dials (s_placeD o17 (vf_upd (m_placeD o17) (m_dials o17).toNatClampNeg FP.dconst0))).toNatClampNeg (0 : Int64))) := ⟨_, rfl⟩
          rw [← eo20] at hP hD hJ hV
          rw [jX8_dial_o20] at hJ
          rw [sX8_dial_o20] at hV
          have hV := hV.2
          refine lv_aload_n hx hb dX8_dial_130 rfl (lv_at hl 0 rfl) ?_
          refine lv_dup hx hb dX8_dial_131 rfl ?_
          refine va_get (D := (dC, dI)) (ci := 6) (v := .int (m_dials o20)) (C := RX8) (T := TX8) (N := 20) (fs := wm_f bd o20) hx hb hts hi_wsX80 hown hK hP 0 rfl rfl 0 (by decide) (hts (.fieldLink RX8 62 "OrreryDialsModel" "dials" "I") (by decide +kernel)) (fun _ h9 => h9) rfl dX8_dial_132 ?_
          refine lv_iconst (v := (1 : Int32)) hx hb dX8_dial_135 (by decide) ?_
          refine lv_iadd hx hb dX8_dial_136 ?_
          refine va_put (D := (dC, dI)) (ci := 6) (v := .int ((m_dials o20) + (1 : Int32))) (ty := .int) (C := RX8) (T := TX8) (N := 20) (fs := wm_f bd o20) hx hb hts hi_wsX80 tyX8 tyX8_ok nmX8 hown hK hP hD hS 0 rfl rfl 0 (by decide) (hts (.fieldLink RX8 62 "OrreryDialsModel" "dials" "I") (by decide +kernel)) (fun _ h9 => h9) rfl (by decide +kernel) rfl rfl (by rw [wm_len]; decide) dX8_dial_137 (fun H locs hP hD hS => ?_)
          rw [wm_p_dials] at hP hD
          refine lv_aload_n hx hb dX8_dial_140 rfl (lv_at hl 0 rfl) ?_
          refine va_get (D := (dC, dI)) (ci := 6) (v := .int (m_dials (s_dials o20 ((m_dials o20) + (1 : Int32))))) (C := RX8) (T := TX8) (N := 20) (fs := wm_f bd (s_dials o20 ((m_dials o20) + (1 : Int32)))) hx hb hts hi_wsX80 hown hK hP 0 rfl rfl 0 (by decide) (hts (.fieldLink RX8 62 "OrreryDialsModel" "dials" "I") (by decide +kernel)) (fun _ h9 => h9) rfl dX8_dial_141 ?_
          refine lv_iconst (v := (1 : Int32)) hx hb dX8_dial_144 (by decide) ?_
          refine lv_isub hx hb dX8_dial_145 ?_
          exact W.iret hx hb hr (fun t ht hW => ⟨⟨_, _, rfl, hJ.trans hE.symm, by rw [ht]; exact hP, va_K.moved hW.alike hK, hD⟩, hS.F ht⟩) hS.2.2 dX8_dial_146
        · skip
          rw [if_pos c5] at hJ
          rw [if_pos c5] at hV
          refine lv_bipush (v := (-103 : Int32)) hx hb dX8_dial_45 (by decide) ?_
          exact W.iret hx hb hr (fun t ht hW => ⟨⟨_, _, rfl, hJ.trans hE.symm, by rw [ht]; exact hP, va_K.moved hW.alike hK, hD⟩, hS.F ht⟩) hS.2.2 dX8_dial_47
      · skip
        rw [if_pos c4] at hJ
        rw [if_pos c4] at hV
        refine lv_bipush (v := (-102 : Int32)) hx hb dX8_dial_33 (by decide) ?_
        exact W.iret hx hb hr (fun t ht hW => ⟨⟨_, _, rfl, hJ.trans hE.symm, by rw [ht]; exact hP, va_K.moved hW.alike hK, hD⟩, hS.F ht⟩) hS.2.2 dX8_dial_35
    · skip
      rw [if_neg c2] at hJ
      rw [if_neg c2] at hV
      refine lv_lload_n hx hb dX8_dial_12 rfl (lv_at hl 2 rfl) ?_
      obtain ⟨hk21, hV⟩ := hV
      refine vp_callSd (W.runS (As := [.long a2]) (rest := []) ⟨hx, hb, hml, hown, hts⟩ (qX8_doubleOf l a2 hk21) (va_cwS 1 hts gX8_dial_X8_doubleOf rfl rfl rfl (by decide +kernel) ⟨Nat.le_of_ble_eq_true rfl, Nat.le_of_ble_eq_true rfl⟩) ⟨fun _ _ _ _ q => q, fun U hU hW => rfl⟩ rfl rfl hl.1 rfl (lv_room (Nat.le_of_ble_eq_true rfl)) dX8_dial_13 ⟨Nat.le_of_ble_eq_true rfl, Nat.le_of_ble_eq_true rfl⟩) (fun r hq9 => ?_)
      rw [hq9]
      refine lv_dconst0 hx hb dX8_dial_16 ?_
      refine lv_dcmp hx hb dX8_dial_17 ?_
      refine lv_if_ne (tgt := 36) hx hb dX8_dial_18 (by decide) (fun c22 => ?_) (fun c22 => ?_)
      · skip
        rw [if_neg c22] at hJ
        rw [if_neg c22] at hV
        refine lv_aload_n hx hb dX8_dial_36 rfl (lv_at hl 0 rfl) ?_
        refine va_get (D := (dC, dI)) (ci := 6) (v := .int (m_dials o)) (C := RX8) (T := TX8) (N := 20) (fs := wm_f bd o) hx hb hts hi_wsX80 hown hK hP 0 rfl rfl 0 (by decide) (hts (.fieldLink RX8 62 "OrreryDialsModel" "dials" "I") (by decide +kernel)) (fun _ h9 => h9) rfl dX8_dial_37 ?_
        refine lv_bipush (v := (12 : Int32)) hx hb dX8_dial_40 (by decide) ?_
        refine lv_icmp_ne (tgt := 48) hx hb dX8_dial_42 (by decide) (fun c23 => ?_) (fun c23 => ?_)
        · skip
          rw [if_neg c23] at hJ
          rw [if_neg c23] at hV
          refine lv_aload_n hx hb dX8_dial_48 rfl (lv_at hl 0 rfl) ?_
          refine va_get (D := (dC, dI)) (ci := 6) (v := .ref (bd 0)) (C := RX8) (T := TX8) (N := 20) (fs := wm_f bd o) hx hb hts hi_wsX80 hown hK hP 0 rfl rfl 1 (by decide) (hts (.fieldLink RX8 7 "OrreryDialsModel" "isFine" "[Z") (by decide +kernel)) (fun _ h9 => h9) rfl dX8_dial_49 ?_
          refine lv_aload_n hx hb dX8_dial_52 rfl (lv_at hl 0 rfl) ?_
          refine va_get (D := (dC, dI)) (ci := 6) (v := .int (m_dials o)) (C := RX8) (T := TX8) (N := 20) (fs := wm_f bd o) hx hb hts hi_wsX80 hown hK hP 0 rfl rfl 0 (by decide) (hts (.fieldLink RX8 62 "OrreryDialsModel" "dials" "I") (by decide +kernel)) (fun _ h9 => h9) rfl dX8_dial_53 ?_
          refine lv_iload_n hx hb dX8_dial_56 rfl (lv_at hl 1 rfl) ?_
          obtain ⟨hk24, hV⟩ := hV
          refine va_zast hx hb hK hP hD hS 1 2 rfl rfl hk24 dX8_dial_57 (fun H locs hP hD hS => ?_)
          rw [wm_a_isFine] at hP hD
          refine lv_aload_n hx hb dX8_dial_58 rfl (lv_at hl 0 rfl) ?_
          refine va_get (D := (dC, dI)) (ci := 6) (v := .ref (bd 1)) (C := RX8) (T := TX8) (N := 20) (fs := wm_f bd (s_isFine o (upd (m_isFine o) (m_dials o).toNatClampNeg (vp_nar .boolean a1)))) hx hb hts hi_wsX80 hown hK hP 0 rfl rfl 2 (by decide) (hts (.fieldLink RX8 13 "OrreryDialsModel" "rimF" "[F") (by decide +kernel)) (fun _ h9 => h9) rfl dX8_dial_59 ?_
          refine lv_aload_n hx hb dX8_dial_62 rfl (lv_at hl 0 rfl) ?_
          refine va_get (D := (dC, dI)) (ci := 6) (v := .int (m_dials (s_isFine o (upd (m_isFine o) (m_dials o).toNatClampNeg (vp_nar .boolean a1))))) (C := RX8) (T := TX8) (N := 20) (fs := wm_f bd (s_isFine o (upd (m_isFine o) (m_dials o).toNatClampNeg (vp_nar .boolean a1)))) hx hb hts hi_wsX80 hown hK hP 0 rfl rfl 0 (by decide) (hts (.fieldLink RX8 62 "OrreryDialsModel" "dials" "I") (by decide +kernel)) (fun _ h9 => h9) rfl dX8_dial_63 ?_
          refine lv_iload_n hx hb dX8_dial_66 rfl (lv_at hl 1 rfl) ?_
          obtain ⟨hv, hV⟩ := hV
          refine jn_f (J := 78) (ls := ls) (v := (if a1 = 0 then (jX8_floatOf a2) else FP.fconst1)) (rest := [.int (m_dials (s_isFine o (upd (m_isFine o) (m_dials o).toNatClampNeg (vp_nar .boolean a1)))), .ref (bd 1)]) ?_ (fun y25 ey25 => ?_)
          · intro hj
            refine lv_if_eq (tgt := 74) hx hb dX8_dial_67 (by decide) (fun c26 => ?_) (fun c26 => ?_)
            · skip
              rw [if_pos c26] at hj
              try rw [if_pos c26] at hv
              refine lv_lload_n hx hb dX8_dial_74 rfl (lv_at hl 2 rfl) ?_
              obtain ⟨hk27, hv⟩ := hv
              refine vp_callSf (W.runS (As := [.long a2]) (rest := [.int (m_dials (s_isFine o (upd (m_isFine o) (m_dials o).toNatClampNeg (vp_nar .boolean a1)))), .ref (bd 1)]) ⟨hx, hb, hml, hown, hts⟩ (qX8_floatOf l a2 hk27) (va_cwS 1 hts gX8_dial_X8_floatOf rfl rfl rfl (by decide +kernel) ⟨Nat.le_of_ble_eq_true rfl, Nat.le_of_ble_eq_true rfl⟩) ⟨fun _ _ _ _ q => q, fun U hU hW => rfl⟩ rfl rfl hl.1 rfl (lv_room (Nat.le_of_ble_eq_true rfl)) dX8_dial_75 ⟨Nat.le_of_ble_eq_true rfl, Nat.le_of_ble_eq_true rfl⟩) (fun r hq9 => ?_)
              rw [hq9]
              exact hj
            · skip
              rw [if_neg c26] at hj
              try rw [if_neg c26] at hv
              refine lv_fconst1 hx hb dX8_dial_70 ?_
              refine lv_goto (tgt := 78) hx hb dX8_dial_71 (by decide) ?_
              exact hj
          rw [← ey25] at hJ
          rw [jX8_dial_y25] at hJ
          rw [← ey25] at hV
          rw [sX8_dial_y25] at hV
          have hV := hV.2
          obtain ⟨hk28, hV⟩ := hV
          refine va_fast hx hb hK hP hD hS 2 3 rfl rfl hk28 dX8_dial_78 (fun H locs hP hD hS => ?_)
          rw [wm_a_rimF] at hP hD
          obtain ⟨o29, eo29⟩ : ∃ z, z = (s_rimF (s_isFine o (upd (m_isFine o) (m_dials o).toNatClampNeg (vp_nar .boolean a1))) (vf_upd (m_rimF (s_isFine o (upd (m_isFine o) (m_dials o).toNatClampNeg (vp_nar .boolean a1)))) (m_dials (s_isFine o (upd (m_isFine o) (m_dials o).toNatClampNeg (vp_nar .boolean a1)))).toNatClampNeg y25)) := ⟨_, rfl⟩
          rw [← eo29] at hP hD hJ hV
          rw [jX8_dial_o29] at hJ
          rw [sX8_dial_o29] at hV
          have hV := hV.2
          refine lv_aload_n hx hb dX8_dial_79 rfl (lv_at hl 0 rfl) ?_
          refine va_get (D := (dC, dI)) (ci := 6) (v := .ref (bd 3)) (C := RX8) (T := TX8) (N := 20) (fs := wm_f bd o29) hx hb hts hi_wsX80 hown hK hP 0 rfl rfl 4 (by decide) (hts (.fieldLink RX8 20 "OrreryDialsModel" "rimD" "[D") (by decide +kernel)) (fun _ h9 => h9) rfl dX8_dial_80 ?_
          refine lv_aload_n hx hb dX8_dial_83 rfl (lv_at hl 0 rfl) ?_
          refine va_get (D := (dC, dI)) (ci := 6) (v := .int (m_dials o29)) (C := RX8) (T := TX8) (N := 20) (fs := wm_f bd o29) hx hb hts hi_wsX80 hown hK hP 0 rfl rfl 0 (by decide) (hts (.fieldLink RX8 62 "OrreryDialsModel" "dials" "I") (by decide +kernel)) (fun _ h9 => h9) rfl dX8_dial_84 ?_
          refine lv_iload_n hx hb dX8_dial_87 rfl (lv_at hl 1 rfl) ?_
          obtain ⟨hv, hV⟩ := hV
          refine jn_d (J := 99) (ls := ls) (v := (if a1 = 0 then FP.dconst1 else (jX8_doubleOf a2))) (rest := [.int (m_dials o29), .ref (bd 3)]) ?_ (fun y30 ey30 => ?_)
          · intro hj
            refine lv_if_eq (tgt := 98) hx hb dX8_dial_88 (by decide) (fun c31 => ?_) (fun c31 => ?_)
            · skip
              rw [if_pos c31] at hj
              try rw [if_pos c31] at hv
              refine lv_dconst1 hx hb dX8_dial_98 ?_
              exact hj
            · skip
              rw [if_neg c31] at hj
              try rw [if_neg c31] at hv
              refine lv_lload_n hx hb dX8_dial_91 rfl (lv_at hl 2 rfl) ?_
              obtain ⟨hk32, hv⟩ := hv
              refine vp_callSd (W.runS (As := [.long a2]) (rest := [.int (m_dials o29), .ref (bd 3)]) ⟨hx, hb, hml, hown, hts⟩ (qX8_doubleOf l a2 hk32) (va_cwS 1 hts gX8_dial_X8_doubleOf rfl rfl rfl (by decide +kernel) ⟨Nat.le_of_ble_eq_true rfl, Nat.le_of_ble_eq_true rfl⟩) ⟨fun _ _ _ _ q => q, fun U hU hW => rfl⟩ rfl rfl hl.1 rfl (lv_room (Nat.le_of_ble_eq_true rfl)) dX8_dial_92 ⟨Nat.le_of_ble_eq_true rfl, Nat.le_of_ble_eq_true rfl⟩) (fun r hq9 => ?_)
              rw [hq9]
              refine lv_goto (tgt := 99) hx hb dX8_dial_95 (by decide) ?_
              exact hj
          rw [← ey30] at hJ
          rw [jX8_dial_y30] at hJ
          rw [← ey30] at hV
          rw [sX8_dial_y30] at hV
          have hV := hV.2
          obtain ⟨hk33, hV⟩ := hV
          refine va_dast hx hb hK hP hD hS 4 4 rfl rfl hk33 dX8_dial_99 (fun H locs hP hD hS => ?_)
          rw [wm_a_rimD] at hP hD
          refine lv_aload_n hx hb dX8_dial_100 rfl (lv_at hl 0 rfl) ?_
          refine va_get (D := (dC, dI)) (ci := 6) (v := .ref (bd 2)) (C := RX8) (T := TX8) (N := 20) (fs := wm_f bd (s_rimD o29 (vf_upd (m_rimD o29) (m_dials o29).toNatClampNeg y30))) hx hb hts hi_wsX80 hown hK hP 0 rfl rfl 3 (by decide) (hts (.fieldLink RX8 17 "OrreryDialsModel" "placeF" "[F") (by decide +kernel)) (fun _ h9 => h9) rfl dX8_dial_101 ?_
          refine lv_aload_n hx hb dX8_dial_104 rfl (lv_at hl 0 rfl) ?_
          refine va_get (D := (dC, dI)) (ci := 6) (v := .int (m_dials (s_rimD o29 (vf_upd (m_rimD o29) (m_dials o29).toNatClampNeg y30)))) (C := RX8) (T := TX8) (N := 20) (fs := wm_f bd (s_rimD o29 (vf_upd (m_rimD o29) (m_dials o29).toNatClampNeg y30))) hx hb hts hi_wsX80 hown hK hP 0 rfl rfl 0 (by decide) (hts (.fieldLink RX8 62 "OrreryDialsModel" "dials" "I") (by decide +kernel)) (fun _ h9 => h9) rfl dX8_dial_105 ?_
          refine lv_fconst0 hx hb dX8_dial_108 ?_
          obtain ⟨hk34, hV⟩ := hV
          refine va_fast hx hb hK hP hD hS 3 3 rfl rfl hk34 dX8_dial_109 (fun H locs hP hD hS => ?_)
          rw [wm_a_placeF] at hP hD
          obtain ⟨o35, eo35⟩ : ∃ z, z = (s_placeF (s_rimD o29 (vf_upd (m_rimD o29) (m_dials o29).toNatClampNeg y30)) (vf_upd (m_placeF (s_rimD o29 (vf_upd (m_rimD o29) (m_dials o29).toNatClampNeg y30))) (m_dials (s_rimD o29 (vf_upd (m_rimD o29) (m_dials o29).toNatClampNeg y30))).toNatClampNeg FP.fconst0)) := ⟨_, rfl⟩
          rw [← eo35] at hP hD hJ hV
          rw [jX8_dial_o35] at hJ
          rw [sX8_dial_o35] at hV
          have hV := hV.2
          refine lv_aload_n hx hb dX8_dial_110 rfl (lv_at hl 0 rfl) ?_
          refine va_get (D := (dC, dI)) (ci := 6) (v := .ref (bd 4)) (C := RX8) (T := TX8) (N := 20) (fs := wm_f bd o35) hx hb hts hi_wsX80 hown hK hP 0 rfl rfl 5 (by decide) (hts (.fieldLink RX8 24 "OrreryDialsModel" "placeD" "[D") (by decide +kernel)) (fun _ h9 => h9) rfl dX8_dial_111 ?_
          refine lv_aload_n hx hb dX8_dial_114 rfl (lv_at hl 0 rfl) ?_
          refine va_get (D := (dC, dI)) (ci := 6) (v := .int (m_dials o35)) (C := RX8) (T := TX8) (N := 20) (fs := wm_f bd o35) hx hb hts hi_wsX80 hown hK hP 0 rfl rfl 0 (by decide) (hts (.fieldLink RX8 62 "OrreryDialsModel" "dials" "I") (by decide +kernel)) (fun _ h9 => h9) rfl dX8_dial_115 ?_
          refine lv_dconst0 hx hb dX8_dial_118 ?_
          obtain ⟨hk36, hV⟩ := hV
          refine va_dast hx hb hK hP hD hS 5 4 rfl rfl hk36 dX8_dial_119 (fun H locs hP hD hS => ?_)
          rw [wm_a_placeD] at hP hD
          refine lv_aload_n hx hb dX8_dial_120 rfl (lv_at hl 0 rfl) ?_
          refine va_get (D := (dC, dI)) (ci := 6) (v := .ref (bd 5)) (C := RX8) (T := TX8) (N := 20) (fs := wm_f bd (s_placeD o35 (vf_upd (m_placeD o35) (m_dials o35).toNatClampNeg FP.dconst0))) hx hb hts hi_wsX80 hown hK hP 0 rfl rfl 6 (by decide) (hts (.fieldLink RX8 27 "OrreryDialsModel" "lapsOf" "[J") (by decide +kernel)) (fun _ h9 => h9) rfl dX8_dial_121 ?_
          refine lv_aload_n hx hb dX8_dial_124 rfl (lv_at hl 0 rfl) ?_
          refine va_get (D := (dC, dI)) (ci := 6) (v := .int (m_dials (s_placeD o35 (vf_upd (m_placeD o35) (m_dials o35).toNatClampNeg FP.dconst0)))) (C := RX8) (T := TX8) (N := 20) (fs := wm_f bd (s_placeD o35 (vf_upd (m_placeD o35) (m_dials o35).toNatClampNeg FP.dconst0))) hx hb hts hi_wsX80 hown hK hP 0 rfl rfl 0 (by decide) (hts (.fieldLink RX8 62 "OrreryDialsModel" "dials" "I") (by decide +kernel)) (fun _ h9 => h9) rfl dX8_dial_125 ?_
          refine lv_lconst (v := (0 : Int64)) hx hb dX8_dial_128 (by decide) ?_
          obtain ⟨hk37, hV⟩ := hV
          refine va_last hx hb hK hP hD hS 6 1 rfl rfl hk37 dX8_dial_129 (fun H locs hP hD hS => ?_)
          rw [wm_a_lapsOf] at hP hD
          obtain ⟨o38, eo38⟩ : ∃ z, z = (s_lapsOf (s_placeD o35 (vf_upd (m_placeD o35) (m_dials o35).toNatClampNeg FP.dconst0)) (vp_updL (m_lapsOf (s_placeD o35 (vf_upd (m_placeD o35) (m_dials o35).toNatClampNeg FP.dconst0))) (m_dials (s_placeD o35 (vf_upd (m_placeD o35) (m_dials o35).toNatClampNeg FP.dconst0))).toNatClampNeg (0 : Int64))) := ⟨_, rfl⟩
          rw [← eo38] at hP hD hJ hV
          rw [jX8_dial_o38] at hJ
          rw [sX8_dial_o38] at hV
          have hV := hV.2
          refine lv_aload_n hx hb dX8_dial_130 rfl (lv_at hl 0 rfl) ?_
          refine lv_dup hx hb dX8_dial_131 rfl ?_
          refine va_get (D := (dC, dI)) (ci := 6) (v := .int (m_dials o38)) (C := RX8) (T := TX8) (N := 20) (fs := wm_f bd o38) hx hb hts hi_wsX80 hown hK hP 0 rfl rfl 0 (by decide) (hts (.fieldLink RX8 62 "OrreryDialsModel" "dials" "I") (by decide +kernel)) (fun _ h9 => h9) rfl dX8_dial_132 ?_
          refine lv_iconst (v := (1 : Int32)) hx hb dX8_dial_135 (by decide) ?_
          refine lv_iadd hx hb dX8_dial_136 ?_
          refine va_put (D := (dC, dI)) (ci := 6) (v := .int ((m_dials o38) + (1 : Int32))) (ty := .int) (C := RX8) (T := TX8) (N := 20) (fs := wm_f bd o38) hx hb hts hi_wsX80 tyX8 tyX8_ok nmX8 hown hK hP hD hS 0 rfl rfl 0 (by decide) (hts (.fieldLink RX8 62 "OrreryDialsModel" "dials" "I") (by decide +kernel)) (fun _ h9 => h9) rfl (by decide +kernel) rfl rfl (by rw [wm_len]; decide) dX8_dial_137 (fun H locs hP hD hS => ?_)
          rw [wm_p_dials] at hP hD
          refine lv_aload_n hx hb dX8_dial_140 rfl (lv_at hl 0 rfl) ?_
          refine va_get (D := (dC, dI)) (ci := 6) (v := .int (m_dials (s_dials o38 ((m_dials o38) + (1 : Int32))))) (C := RX8) (T := TX8) (N := 20) (fs := wm_f bd (s_dials o38 ((m_dials o38) + (1 : Int32)))) hx hb hts hi_wsX80 hown hK hP 0 rfl rfl 0 (by decide) (hts (.fieldLink RX8 62 "OrreryDialsModel" "dials" "I") (by decide +kernel)) (fun _ h9 => h9) rfl dX8_dial_141 ?_
          refine lv_iconst (v := (1 : Int32)) hx hb dX8_dial_144 (by decide) ?_
          refine lv_isub hx hb dX8_dial_145 ?_
          exact W.iret hx hb hr (fun t ht hW => ⟨⟨_, _, rfl, hJ.trans hE.symm, by rw [ht]; exact hP, va_K.moved hW.alike hK, hD⟩, hS.F ht⟩) hS.2.2 dX8_dial_146
        · skip
          rw [if_pos c23] at hJ
          rw [if_pos c23] at hV
          refine lv_bipush (v := (-103 : Int32)) hx hb dX8_dial_45 (by decide) ?_
          exact W.iret hx hb hr (fun t ht hW => ⟨⟨_, _, rfl, hJ.trans hE.symm, by rw [ht]; exact hP, va_K.moved hW.alike hK, hD⟩, hS.F ht⟩) hS.2.2 dX8_dial_47
      · skip
        rw [if_pos c22] at hJ
        rw [if_pos c22] at hV
        refine lv_goto (tgt := 33) hx hb dX8_dial_21 (by decide) ?_
        refine lv_bipush (v := (-102 : Int32)) hx hb dX8_dial_33 (by decide) ?_
        exact W.iret hx hb hr (fun t ht hW => ⟨⟨_, _, rfl, hJ.trans hE.symm, by rw [ht]; exact hP, va_K.moved hW.alike hK, hD⟩, hS.F ht⟩) hS.2.2 dX8_dial_35
def jX8_goesFloat_o9 (o : Ms) (a1 : Int32) (a2 : UInt32) (y3 : UInt32) (o9 : Ms) : Int32 × Ms := ((1 : Int32), (s_placeF o9 (vf_upd (m_placeF o9) a1.toNatClampNeg (FP.frem y3 (m_rimF o9 a1.toNatClampNeg)))))
def sX8_goesFloat_o9 (o : Ms) (a1 : Int32) (a2 : UInt32) (y3 : UInt32) (o9 : Ms) : Prop := True ∧ (vp_in a1 12 ∧ (vf_n32 (FP.frem y3 (m_rimF o9 a1.toNatClampNeg)) ∧ (vp_in a1 12 ∧ True)))
def jX8_goesFloat_y3 (o : Ms) (a1 : Int32) (a2 : UInt32) (y3 : UInt32) : Int32 × Ms := (if (jX8_isEndlessFloat y3) = 0 then (jX8_goesFloat_o9 o a1 a2 y3 (s_lapsOf o (vp_updL (m_lapsOf o) a1.toNatClampNeg ((m_lapsOf o a1.toNatClampNeg) + (FP.f2l (FP.fdiv y3 (m_rimF o a1.toNatClampNeg))))))) else ((0 : Int32), o))
def sX8_goesFloat_y3 (o : Ms) (a1 : Int32) (a2 : UInt32) (y3 : UInt32) : Prop := True ∧ (if (jX8_isEndlessFloat y3) = 0 then (vp_in a1 12 ∧ (vp_in a1 12 ∧ (vf_n32 (FP.fdiv y3 (m_rimF o a1.toNatClampNeg)) ∧ (vp_in a1 12 ∧ (sX8_goesFloat_o9 o a1 a2 y3 (s_lapsOf o (vp_updL (m_lapsOf o) a1.toNatClampNeg ((m_lapsOf o a1.toNatClampNeg) + (FP.f2l (FP.fdiv y3 (m_rimF o a1.toNatClampNeg))))))))))) else True)
def jX8_goesFloat (o : Ms) (a1 : Int32) (a2 : UInt32) : Int32 × Ms := (jX8_goesFloat_y3 o a1 a2 (FP.fadd (m_placeF o a1.toNatClampNeg) a2))
def sX8_goesFloat (o : Ms) (a1 : Int32) (a2 : UInt32) : Prop := True ∧ (vp_in a1 12 ∧ (vf_n32 (FP.fadd (m_placeF o a1.toNatClampNeg) a2) ∧ (sX8_goesFloat_y3 o a1 a2 (FP.fadd (m_placeF o a1.toNatClampNeg) a2))))
set_option linter.constructorNameAsVariable false in
set_option maxHeartbeats 8000000 in
set_option maxRecDepth 100000 in
theorem qX8_goesFloat (l : Launch) (dC : Nat → ClassId) (dI : Nat → Nat → Nat) (cy : Nat → ClassId) (y : Nat) (bd : Nat → Nat) (sz : Nat) (o : Ms) (a1 : Int32) (a2 : UInt32) (hV : sX8_goesFloat o a1 a2) : Met l yX8_goesFloat wsX8_goesFloat ({ frames := 1, cells := 0, slots := 0, locals := 20 }) (va_Pc [.ref y, .int a1, .float a2] (wI (dC, dI) (tyA cy) (WM cy y bd o) sz)) (va_Qi (fun r u => (r, u) = jX8_goesFloat o a1 a2) (fun u t => wO (dC, dI) (tyA cy) (va_A (WM cy y bd o) sz) (WM cy y bd u) t) (va_A (WM cy y bd o) sz)) 0 0 (va_A (WM cy y bd o) sz) := by
  refine Met.ofW (cc := cX8_goesFloat) (maxL := 4) (ret := some .boolean) (by decide) rfl ?_
  intro p e s m args below meth c s₁ B hml hv
  obtain ⟨rfl, hsz, hP, hK, hD0, hk⟩ := hv
  have hx := B.exec
  have hb := B.bytes
  have hr := B.returns
  have hts := atoms_spec (ws := wsX8_goesFloat) B.pre
  have hown : s.vm.findClass RX8 = some m.cls := findClass_of_methodNamed B.named
  have hlocks := B.notSynchronized
  subst hsz
  have hD := hD0.self (sz := s.heap.size)
  generalize hAe : va_A (WM cy y bd o) s.heap.size = A at hD ⊢
  have hA : ∀ q : Nat, s.heap.size ≤ q → A q := fun q h => by rw [← hAe]; exact Or.inr h
  obtain ⟨H, hHe⟩ : ∃ H, s.heap = H := ⟨_, rfl⟩
  have hP : va_P (dC, dI) vwCl (WM cy y bd o) H := by rw [← hHe]; exact hP
  have hS : va_S A s.heap H [] := by rw [← hHe]; exact va_S.rf
  rw [w_heap hHe]
  have hi_wsX80 : ∀ w ∈ wsX80, w ∈ wsX8_goesFloat := fun _ h => List.mem_cons_of_mem _ (List.mem_append_right _ h)
  obtain ⟨JR, hE⟩ : ∃ q, jX8_goesFloat o a1 a2 = q := ⟨_, rfl⟩
  have hJ := hE
  rw [jX8_goesFloat] at hJ
  rw [sX8_goesFloat] at hV
  have hV := hV.2
  have hl := lv_entry ([.ref y, .int a1, .float a2]) (n := 4) (Nat.le_of_ble_eq_true rfl)
  rw [lg_entry_eq]
  generalize (lg_sl ([.ref y, .int a1, .float a2]) ++ List.replicate (4 - (lg_sl ([.ref y, .int a1, .float a2])).length) Slot.unset).toArray = ls at hl ⊢
  have hl : lv_has ls 4 [(0, .ref y), (1, .int a1), (2, .float a2)] := hl
  refine lv_aload_n hx hb dX8_goesFloat_0 rfl (lv_at hl 0 rfl) ?_
  refine va_get (D := (dC, dI)) (ci := 6) (v := .ref (bd 2)) (C := RX8) (T := TX8) (N := 20) (fs := wm_f bd o) hx hb hts hi_wsX80 hown hK hP 0 rfl rfl 3 (by decide) (hts (.fieldLink RX8 17 "OrreryDialsModel" "placeF" "[F") (by decide +kernel)) (fun _ h9 => h9) rfl dX8_goesFloat_1 ?_
  refine lv_iload_n hx hb dX8_goesFloat_4 rfl (lv_at hl 1 rfl) ?_
  obtain ⟨hk1, hV⟩ := hV
  refine va_fald hx hb hK hP 3 3 rfl rfl hk1 dX8_goesFloat_5 ?_
  refine lv_fload_n hx hb dX8_goesFloat_6 rfl (lv_at hl 2 rfl) ?_
  obtain ⟨hk2, hV⟩ := hV
  refine lv_fadd hx hb dX8_goesFloat_7 hk2 ?_
  refine lv_topf (fun y3 ey3 => ?_)
  rw [← ey3] at hJ
  rw [jX8_goesFloat_y3] at hJ
  rw [← ey3] at hV
  rw [sX8_goesFloat_y3] at hV
  have hV := hV.2
  refine lv_fstore_n (lv' := [(3, .float y3), (0, .ref y), (1, .int a1), (2, .float a2)]) hx hb dX8_goesFloat_8 rfl hl (by decide) rfl (fun ls hl => ?_)
  refine lv_fload_n hx hb dX8_goesFloat_9 rfl (lv_at hl 0 rfl) ?_
  refine vp_callSi (W.runS (As := [.float y3]) (rest := []) ⟨hx, hb, hml, hown, hts⟩ (qX8_isEndlessFloat l y3) (va_cwS 1 hts gX8_goesFloat_X8_isEndlessFloat rfl rfl rfl (by decide +kernel) ⟨Nat.le_of_ble_eq_true rfl, Nat.le_of_ble_eq_true rfl⟩) ⟨fun _ _ _ _ q => q, fun U hU hW => rfl⟩ rfl rfl hl.1 rfl (lv_room (Nat.le_of_ble_eq_true rfl)) dX8_goesFloat_10 ⟨Nat.le_of_ble_eq_true rfl, Nat.le_of_ble_eq_true rfl⟩) (fun r hq9 => ?_)
  rw [hq9]
  refine lv_if_eq (tgt := 18) hx hb dX8_goesFloat_13 (by decide) (fun c4 => ?_) (fun c4 => ?_)
  · skip
    rw [if_pos c4] at hJ
    rw [if_pos c4] at hV
    refine lv_aload_n hx hb dX8_goesFloat_18 rfl (lv_at hl 1 rfl) ?_
    refine va_get (D := (dC, dI)) (ci := 6) (v := .ref (bd 5)) (C := RX8) (T := TX8) (N := 20) (fs := wm_f bd o) hx hb hts hi_wsX80 hown hK hP 0 rfl rfl 6 (by decide) (hts (.fieldLink RX8 27 "OrreryDialsModel" "lapsOf" "[J") (by decide +kernel)) (fun _ h9 => h9) rfl dX8_goesFloat_19 ?_
    refine lv_iload_n hx hb dX8_goesFloat_22 rfl (lv_at hl 2 rfl) ?_
    refine lv_dup2_11 hx hb dX8_goesFloat_23 rfl rfl ?_
    obtain ⟨hk5, hV⟩ := hV
    refine va_lald hx hb hK hP 6 1 rfl rfl hk5 dX8_goesFloat_24 ?_
    refine lv_fload_n hx hb dX8_goesFloat_25 rfl (lv_at hl 0 rfl) ?_
    refine lv_aload_n hx hb dX8_goesFloat_26 rfl (lv_at hl 1 rfl) ?_
    refine va_get (D := (dC, dI)) (ci := 6) (v := .ref (bd 1)) (C := RX8) (T := TX8) (N := 20) (fs := wm_f bd o) hx hb hts hi_wsX80 hown hK hP 0 rfl rfl 2 (by decide) (hts (.fieldLink RX8 13 "OrreryDialsModel" "rimF" "[F") (by decide +kernel)) (fun _ h9 => h9) rfl dX8_goesFloat_27 ?_
    refine lv_iload_n hx hb dX8_goesFloat_30 rfl (lv_at hl 2 rfl) ?_
    obtain ⟨hk6, hV⟩ := hV
    refine va_fald hx hb hK hP 2 3 rfl rfl hk6 dX8_goesFloat_31 ?_
    obtain ⟨hk7, hV⟩ := hV
    refine lv_fdiv hx hb dX8_goesFloat_32 hk7 ?_
    refine lv_f2l hx hb dX8_goesFloat_33 ?_
    refine lv_ladd hx hb dX8_goesFloat_34 ?_
    obtain ⟨hk8, hV⟩ := hV
    refine va_last hx hb hK hP hD hS 6 1 rfl rfl hk8 dX8_goesFloat_35 (fun H locs hP hD hS => ?_)
    rw [wm_a_lapsOf] at hP hD
    obtain ⟨o9, eo9⟩ : ∃ z, z = (s_lapsOf o (vp_updL (m_lapsOf o) a1.toNatClampNeg ((m_lapsOf o a1.toNatClampNeg) + (FP.f2l (FP.fdiv y3 (m_rimF o a1.toNatClampNeg)))))) := ⟨_, rfl⟩
    rw [← eo9] at hP hD hJ hV
    rw [jX8_goesFloat_o9] at hJ
    rw [sX8_goesFloat_o9] at hV
    have hV := hV.2
    refine lv_aload_n hx hb dX8_goesFloat_36 rfl (lv_at hl 1 rfl) ?_
    refine va_get (D := (dC, dI)) (ci := 6) (v := .ref (bd 2)) (C := RX8) (T := TX8) (N := 20) (fs := wm_f bd o9) hx hb hts hi_wsX80 hown hK hP 0 rfl rfl 3 (by decide) (hts (.fieldLink RX8 17 "OrreryDialsModel" "placeF" "[F") (by decide +kernel)) (fun _ h9 => h9) rfl dX8_goesFloat_37 ?_
    refine lv_iload_n hx hb dX8_goesFloat_40 rfl (lv_at hl 2 rfl) ?_
    refine lv_fload_n hx hb dX8_goesFloat_41 rfl (lv_at hl 0 rfl) ?_
    refine lv_aload_n hx hb dX8_goesFloat_42 rfl (lv_at hl 1 rfl) ?_
    refine va_get (D := (dC, dI)) (ci := 6) (v := .ref (bd 1)) (C := RX8) (T := TX8) (N := 20) (fs := wm_f bd o9) hx hb hts hi_wsX80 hown hK hP 0 rfl rfl 2 (by decide) (hts (.fieldLink RX8 13 "OrreryDialsModel" "rimF" "[F") (by decide +kernel)) (fun _ h9 => h9) rfl dX8_goesFloat_43 ?_
    refine lv_iload_n hx hb dX8_goesFloat_46 rfl (lv_at hl 2 rfl) ?_
    obtain ⟨hk10, hV⟩ := hV
    refine va_fald hx hb hK hP 2 3 rfl rfl hk10 dX8_goesFloat_47 ?_
    obtain ⟨hk11, hV⟩ := hV
    refine lv_frem hx hb dX8_goesFloat_48 hk11 ?_
    obtain ⟨hk12, hV⟩ := hV
    refine va_fast hx hb hK hP hD hS 3 3 rfl rfl hk12 dX8_goesFloat_49 (fun H locs hP hD hS => ?_)
    rw [wm_a_placeF] at hP hD
    refine lv_iconst (v := (1 : Int32)) hx hb dX8_goesFloat_50 (by decide) ?_
    exact W.zret hx hb hr rfl (fun t ht hW => ⟨⟨_, _, rfl, hJ.trans hE.symm, by rw [ht]; exact hP, va_K.moved hW.alike hK, hD⟩, hS.F ht⟩) hS.2.2 dX8_goesFloat_51
  · skip
    rw [if_neg c4] at hJ
    rw [if_neg c4] at hV
    refine lv_iconst (v := (0 : Int32)) hx hb dX8_goesFloat_16 (by decide) ?_
    exact W.zret hx hb hr rfl (fun t ht hW => ⟨⟨_, _, rfl, hJ.trans hE.symm, by rw [ht]; exact hP, va_K.moved hW.alike hK, hD⟩, hS.F ht⟩) hS.2.2 dX8_goesFloat_17
theorem bX8_goesFloat_o9 (o : Ms) (a1 : Int32) (a2 : UInt32) (y3 : UInt32) (o9 : Ms) : (jX8_goesFloat_o9 o a1 a2 y3 o9).1 = 0 ∨ (jX8_goesFloat_o9 o a1 a2 y3 o9).1 = 1 := by
  unfold jX8_goesFloat_o9
  exact (Or.inr rfl)
theorem bX8_goesFloat_y3 (o : Ms) (a1 : Int32) (a2 : UInt32) (y3 : UInt32) : (jX8_goesFloat_y3 o a1 a2 y3).1 = 0 ∨ (jX8_goesFloat_y3 o a1 a2 y3).1 = 1 := by
  unfold jX8_goesFloat_y3
  exact (ib (bX8_goesFloat_o9 o a1 a2 y3 (s_lapsOf o (vp_updL (m_lapsOf o) a1.toNatClampNeg ((m_lapsOf o a1.toNatClampNeg) + (FP.f2l (FP.fdiv y3 (m_rimF o a1.toNatClampNeg))))))) (Or.inl rfl))
theorem bX8_goesFloat (o : Ms) (a1 : Int32) (a2 : UInt32) : (jX8_goesFloat o a1 a2).1 = 0 ∨ (jX8_goesFloat o a1 a2).1 = 1 := by
  unfold jX8_goesFloat
  exact (bX8_goesFloat_y3 o a1 a2 (FP.fadd (m_placeF o a1.toNatClampNeg) a2))
def jX8_goesDouble_o9 (o : Ms) (a1 : Int32) (a2 : UInt64) (y3 : UInt64) (o9 : Ms) : Int32 × Ms := ((1 : Int32), (s_placeD o9 (vf_upd (m_placeD o9) a1.toNatClampNeg (FP.drem y3 (m_rimD o9 a1.toNatClampNeg)))))
def sX8_goesDouble_o9 (o : Ms) (a1 : Int32) (a2 : UInt64) (y3 : UInt64) (o9 : Ms) : Prop := True ∧ (vp_in a1 12 ∧ (vf_n64 (FP.drem y3 (m_rimD o9 a1.toNatClampNeg)) ∧ (vp_in a1 12 ∧ True)))
def jX8_goesDouble_y3 (o : Ms) (a1 : Int32) (a2 : UInt64) (y3 : UInt64) : Int32 × Ms := (if (jX8_isEndless y3) = 0 then (jX8_goesDouble_o9 o a1 a2 y3 (s_lapsOf o (vp_updL (m_lapsOf o) a1.toNatClampNeg ((m_lapsOf o a1.toNatClampNeg) + (FP.d2l (FP.ddiv y3 (m_rimD o a1.toNatClampNeg))))))) else ((0 : Int32), o))
def sX8_goesDouble_y3 (o : Ms) (a1 : Int32) (a2 : UInt64) (y3 : UInt64) : Prop := True ∧ (if (jX8_isEndless y3) = 0 then (vp_in a1 12 ∧ (vp_in a1 12 ∧ (vf_n64 (FP.ddiv y3 (m_rimD o a1.toNatClampNeg)) ∧ (vp_in a1 12 ∧ (sX8_goesDouble_o9 o a1 a2 y3 (s_lapsOf o (vp_updL (m_lapsOf o) a1.toNatClampNeg ((m_lapsOf o a1.toNatClampNeg) + (FP.d2l (FP.ddiv y3 (m_rimD o a1.toNatClampNeg))))))))))) else True)
def jX8_goesDouble (o : Ms) (a1 : Int32) (a2 : UInt64) : Int32 × Ms := (jX8_goesDouble_y3 o a1 a2 (FP.dadd (m_placeD o a1.toNatClampNeg) a2))
def sX8_goesDouble (o : Ms) (a1 : Int32) (a2 : UInt64) : Prop := True ∧ (vp_in a1 12 ∧ (vf_n64 (FP.dadd (m_placeD o a1.toNatClampNeg) a2) ∧ (sX8_goesDouble_y3 o a1 a2 (FP.dadd (m_placeD o a1.toNatClampNeg) a2))))
set_option linter.constructorNameAsVariable false in
set_option maxHeartbeats 8000000 in
set_option maxRecDepth 100000 in
theorem qX8_goesDouble (l : Launch) (dC : Nat → ClassId) (dI : Nat → Nat → Nat) (cy : Nat → ClassId) (y : Nat) (bd : Nat → Nat) (sz : Nat) (o : Ms) (a1 : Int32) (a2 : UInt64) (hV : sX8_goesDouble o a1 a2) : Met l yX8_goesDouble wsX8_goesDouble ({ frames := 1, cells := 0, slots := 0, locals := 21 }) (va_Pc [.ref y, .int a1, .double a2] (wI (dC, dI) (tyA cy) (WM cy y bd o) sz)) (va_Qi (fun r u => (r, u) = jX8_goesDouble o a1 a2) (fun u t => wO (dC, dI) (tyA cy) (va_A (WM cy y bd o) sz) (WM cy y bd u) t) (va_A (WM cy y bd o) sz)) 0 0 (va_A (WM cy y bd o) sz) := by
  refine Met.ofW (cc := cX8_goesDouble) (maxL := 6) (ret := some .boolean) (by decide) rfl ?_
  intro p e s m args below meth c s₁ B hml hv
  obtain ⟨rfl, hsz, hP, hK, hD0, hk⟩ := hv
  have hx := B.exec
  have hb := B.bytes
  have hr := B.returns
  have hts := atoms_spec (ws := wsX8_goesDouble) B.pre
  have hown : s.vm.findClass RX8 = some m.cls := findClass_of_methodNamed B.named
  have hlocks := B.notSynchronized
  subst hsz
  have hD := hD0.self (sz := s.heap.size)
  generalize hAe : va_A (WM cy y bd o) s.heap.size = A at hD ⊢
  have hA : ∀ q : Nat, s.heap.size ≤ q → A q := fun q h => by rw [← hAe]; exact Or.inr h
  obtain ⟨H, hHe⟩ : ∃ H, s.heap = H := ⟨_, rfl⟩
  have hP : va_P (dC, dI) vwCl (WM cy y bd o) H := by rw [← hHe]; exact hP
  have hS : va_S A s.heap H [] := by rw [← hHe]; exact va_S.rf
  rw [w_heap hHe]
  have hi_wsX80 : ∀ w ∈ wsX80, w ∈ wsX8_goesDouble := fun _ h => List.mem_cons_of_mem _ (List.mem_append_right _ h)
  obtain ⟨JR, hE⟩ : ∃ q, jX8_goesDouble o a1 a2 = q := ⟨_, rfl⟩
  have hJ := hE
  rw [jX8_goesDouble] at hJ
  rw [sX8_goesDouble] at hV
  have hV := hV.2
  have hl := lv_entry ([.ref y, .int a1, .double a2]) (n := 6) (Nat.le_of_ble_eq_true rfl)
  rw [lg_entry_eq]
  generalize (lg_sl ([.ref y, .int a1, .double a2]) ++ List.replicate (6 - (lg_sl ([.ref y, .int a1, .double a2])).length) Slot.unset).toArray = ls at hl ⊢
  have hl : lv_has ls 6 [(0, .ref y), (1, .int a1), (2, .double a2)] := hl
  refine lv_aload_n hx hb dX8_goesDouble_0 rfl (lv_at hl 0 rfl) ?_
  refine va_get (D := (dC, dI)) (ci := 6) (v := .ref (bd 4)) (C := RX8) (T := TX8) (N := 20) (fs := wm_f bd o) hx hb hts hi_wsX80 hown hK hP 0 rfl rfl 5 (by decide) (hts (.fieldLink RX8 24 "OrreryDialsModel" "placeD" "[D") (by decide +kernel)) (fun _ h9 => h9) rfl dX8_goesDouble_1 ?_
  refine lv_iload_n hx hb dX8_goesDouble_4 rfl (lv_at hl 1 rfl) ?_
  obtain ⟨hk1, hV⟩ := hV
  refine va_dald hx hb hK hP 5 4 rfl rfl hk1 dX8_goesDouble_5 ?_
  refine lv_dload_n hx hb dX8_goesDouble_6 rfl (lv_at hl 2 rfl) ?_
  obtain ⟨hk2, hV⟩ := hV
  refine lv_dadd hx hb dX8_goesDouble_7 hk2 ?_
  refine lv_topd (fun y3 ey3 => ?_)
  rw [← ey3] at hJ
  rw [jX8_goesDouble_y3] at hJ
  rw [← ey3] at hV
  rw [sX8_goesDouble_y3] at hV
  have hV := hV.2
  refine lv_dstore (lv' := [(4, .double y3), (0, .ref y), (1, .int a1), (2, .double a2)]) hx hb dX8_goesDouble_8 hl (by decide) rfl (fun ls hl => ?_)
  refine lv_dload hx hb dX8_goesDouble_10 (lv_at hl 0 rfl) ?_
  refine vp_callSi (W.runS (As := [.double y3]) (rest := []) ⟨hx, hb, hml, hown, hts⟩ (qX8_isEndless l y3) (va_cwS 1 hts gX8_goesDouble_X8_isEndless rfl rfl rfl (by decide +kernel) ⟨Nat.le_of_ble_eq_true rfl, Nat.le_of_ble_eq_true rfl⟩) ⟨fun _ _ _ _ q => q, fun U hU hW => rfl⟩ rfl rfl hl.1 rfl (lv_room (Nat.le_of_ble_eq_true rfl)) dX8_goesDouble_12 ⟨Nat.le_of_ble_eq_true rfl, Nat.le_of_ble_eq_true rfl⟩) (fun r hq9 => ?_)
  rw [hq9]
  refine lv_if_eq (tgt := 20) hx hb dX8_goesDouble_15 (by decide) (fun c4 => ?_) (fun c4 => ?_)
  · skip
    rw [if_pos c4] at hJ
    rw [if_pos c4] at hV
    refine lv_aload_n hx hb dX8_goesDouble_20 rfl (lv_at hl 1 rfl) ?_
    refine va_get (D := (dC, dI)) (ci := 6) (v := .ref (bd 5)) (C := RX8) (T := TX8) (N := 20) (fs := wm_f bd o) hx hb hts hi_wsX80 hown hK hP 0 rfl rfl 6 (by decide) (hts (.fieldLink RX8 27 "OrreryDialsModel" "lapsOf" "[J") (by decide +kernel)) (fun _ h9 => h9) rfl dX8_goesDouble_21 ?_
    refine lv_iload_n hx hb dX8_goesDouble_24 rfl (lv_at hl 2 rfl) ?_
    refine lv_dup2_11 hx hb dX8_goesDouble_25 rfl rfl ?_
    obtain ⟨hk5, hV⟩ := hV
    refine va_lald hx hb hK hP 6 1 rfl rfl hk5 dX8_goesDouble_26 ?_
    refine lv_dload hx hb dX8_goesDouble_27 (lv_at hl 0 rfl) ?_
    refine lv_aload_n hx hb dX8_goesDouble_29 rfl (lv_at hl 1 rfl) ?_
    refine va_get (D := (dC, dI)) (ci := 6) (v := .ref (bd 3)) (C := RX8) (T := TX8) (N := 20) (fs := wm_f bd o) hx hb hts hi_wsX80 hown hK hP 0 rfl rfl 4 (by decide) (hts (.fieldLink RX8 20 "OrreryDialsModel" "rimD" "[D") (by decide +kernel)) (fun _ h9 => h9) rfl dX8_goesDouble_30 ?_
    refine lv_iload_n hx hb dX8_goesDouble_33 rfl (lv_at hl 2 rfl) ?_
    obtain ⟨hk6, hV⟩ := hV
    refine va_dald hx hb hK hP 4 4 rfl rfl hk6 dX8_goesDouble_34 ?_
    obtain ⟨hk7, hV⟩ := hV
    refine lv_ddiv hx hb dX8_goesDouble_35 hk7 ?_
    refine lv_d2l hx hb dX8_goesDouble_36 ?_
    refine lv_ladd hx hb dX8_goesDouble_37 ?_
    obtain ⟨hk8, hV⟩ := hV
    refine va_last hx hb hK hP hD hS 6 1 rfl rfl hk8 dX8_goesDouble_38 (fun H locs hP hD hS => ?_)
    rw [wm_a_lapsOf] at hP hD
    obtain ⟨o9, eo9⟩ : ∃ z, z = (s_lapsOf o (vp_updL (m_lapsOf o) a1.toNatClampNeg ((m_lapsOf o a1.toNatClampNeg) + (FP.d2l (FP.ddiv y3 (m_rimD o a1.toNatClampNeg)))))) := ⟨_, rfl⟩
    rw [← eo9] at hP hD hJ hV
    rw [jX8_goesDouble_o9] at hJ
    rw [sX8_goesDouble_o9] at hV
    have hV := hV.2
    refine lv_aload_n hx hb dX8_goesDouble_39 rfl (lv_at hl 1 rfl) ?_
    refine va_get (D := (dC, dI)) (ci := 6) (v := .ref (bd 4)) (C := RX8) (T := TX8) (N := 20) (fs := wm_f bd o9) hx hb hts hi_wsX80 hown hK hP 0 rfl rfl 5 (by decide) (hts (.fieldLink RX8 24 "OrreryDialsModel" "placeD" "[D") (by decide +kernel)) (fun _ h9 => h9) rfl dX8_goesDouble_40 ?_
    refine lv_iload_n hx hb dX8_goesDouble_43 rfl (lv_at hl 2 rfl) ?_
    refine lv_dload hx hb dX8_goesDouble_44 (lv_at hl 0 rfl) ?_
    refine lv_aload_n hx hb dX8_goesDouble_46 rfl (lv_at hl 1 rfl) ?_
    refine va_get (D := (dC, dI)) (ci := 6) (v := .ref (bd 3)) (C := RX8) (T := TX8) (N := 20) (fs := wm_f bd o9) hx hb hts hi_wsX80 hown hK hP 0 rfl rfl 4 (by decide) (hts (.fieldLink RX8 20 "OrreryDialsModel" "rimD" "[D") (by decide +kernel)) (fun _ h9 => h9) rfl dX8_goesDouble_47 ?_
    refine lv_iload_n hx hb dX8_goesDouble_50 rfl (lv_at hl 2 rfl) ?_
    obtain ⟨hk10, hV⟩ := hV
    refine va_dald hx hb hK hP 4 4 rfl rfl hk10 dX8_goesDouble_51 ?_
    obtain ⟨hk11, hV⟩ := hV
    refine lv_drem hx hb dX8_goesDouble_52 hk11 ?_
    obtain ⟨hk12, hV⟩ := hV
    refine va_dast hx hb hK hP hD hS 5 4 rfl rfl hk12 dX8_goesDouble_53 (fun H locs hP hD hS => ?_)
    rw [wm_a_placeD] at hP hD
    refine lv_iconst (v := (1 : Int32)) hx hb dX8_goesDouble_54 (by decide) ?_
    exact W.zret hx hb hr rfl (fun t ht hW => ⟨⟨_, _, rfl, hJ.trans hE.symm, by rw [ht]; exact hP, va_K.moved hW.alike hK, hD⟩, hS.F ht⟩) hS.2.2 dX8_goesDouble_55
  · skip
    rw [if_neg c4] at hJ
    rw [if_neg c4] at hV
    refine lv_iconst (v := (0 : Int32)) hx hb dX8_goesDouble_18 (by decide) ?_
    exact W.zret hx hb hr rfl (fun t ht hW => ⟨⟨_, _, rfl, hJ.trans hE.symm, by rw [ht]; exact hP, va_K.moved hW.alike hK, hD⟩, hS.F ht⟩) hS.2.2 dX8_goesDouble_19
theorem bX8_goesDouble_o9 (o : Ms) (a1 : Int32) (a2 : UInt64) (y3 : UInt64) (o9 : Ms) : (jX8_goesDouble_o9 o a1 a2 y3 o9).1 = 0 ∨ (jX8_goesDouble_o9 o a1 a2 y3 o9).1 = 1 := by
  unfold jX8_goesDouble_o9
  exact (Or.inr rfl)
theorem bX8_goesDouble_y3 (o : Ms) (a1 : Int32) (a2 : UInt64) (y3 : UInt64) : (jX8_goesDouble_y3 o a1 a2 y3).1 = 0 ∨ (jX8_goesDouble_y3 o a1 a2 y3).1 = 1 := by
  unfold jX8_goesDouble_y3
  exact (ib (bX8_goesDouble_o9 o a1 a2 y3 (s_lapsOf o (vp_updL (m_lapsOf o) a1.toNatClampNeg ((m_lapsOf o a1.toNatClampNeg) + (FP.d2l (FP.ddiv y3 (m_rimD o a1.toNatClampNeg))))))) (Or.inl rfl))
theorem bX8_goesDouble (o : Ms) (a1 : Int32) (a2 : UInt64) : (jX8_goesDouble o a1 a2).1 = 0 ∨ (jX8_goesDouble o a1 a2).1 = 1 := by
  unfold jX8_goesDouble
  exact (bX8_goesDouble_y3 o a1 a2 (FP.dadd (m_placeD o a1.toNatClampNeg) a2))
def jX8_goes (o : Ms) (a1 : Int32) (a2 : Int64) : Int32 × Ms := (if (m_isFine o a1.toNatClampNeg) = 0 then ((jX8_goesFloat o a1 (jX8_floatOf a2)).1, (jX8_goesFloat o a1 (jX8_floatOf a2)).2) else ((jX8_goesDouble o a1 (jX8_doubleOf a2)).1, (jX8_goesDouble o a1 (jX8_doubleOf a2)).2))
def sX8_goes (o : Ms) (a1 : Int32) (a2 : Int64) : Prop := True ∧ (vp_in a1 12 ∧ (if (m_isFine o a1.toNatClampNeg) = 0 then (sX8_floatOf a2 ∧ (sX8_goesFloat o a1 (jX8_floatOf a2) ∧ True)) else (sX8_doubleOf a2 ∧ (sX8_goesDouble o a1 (jX8_doubleOf a2) ∧ True))))
set_option linter.constructorNameAsVariable false in
set_option maxHeartbeats 8000000 in
set_option maxRecDepth 100000 in
theorem qX8_goes (l : Launch) (dC : Nat → ClassId) (dI : Nat → Nat → Nat) (cy : Nat → ClassId) (y : Nat) (bd : Nat → Nat) (sz : Nat) (o : Ms) (a1 : Int32) (a2 : Int64) (hV : sX8_goes o a1 a2) : Met l yX8_goes wsX8_goes ({ frames := 2, cells := 0, slots := 0, locals := 46 }) (va_Pc [.ref y, .int a1, .long a2] (wI (dC, dI) (tyA cy) (WM cy y bd o) sz)) (va_Qi (fun r u => (r, u) = jX8_goes o a1 a2) (fun u t => wO (dC, dI) (tyA cy) (va_A (WM cy y bd o) sz) (WM cy y bd u) t) (va_A (WM cy y bd o) sz)) 0 0 (va_A (WM cy y bd o) sz) := by
  refine Met.ofW (cc := cX8_goes) (maxL := 4) (ret := some .boolean) (by decide) rfl ?_
  intro p e s m args below meth c s₁ B hml hv
  obtain ⟨rfl, hsz, hP, hK, hD0, hk⟩ := hv
  have hx := B.exec
  have hb := B.bytes
  have hr := B.returns
  have hts := atoms_spec (ws := wsX8_goes) B.pre
  have hown : s.vm.findClass RX8 = some m.cls := findClass_of_methodNamed B.named
  have hlocks := B.notSynchronized
  subst hsz
  have hD := hD0.self (sz := s.heap.size)
  generalize hAe : va_A (WM cy y bd o) s.heap.size = A at hD ⊢
  have hA : ∀ q : Nat, s.heap.size ≤ q → A q := fun q h => by rw [← hAe]; exact Or.inr h
  obtain ⟨H, hHe⟩ : ∃ H, s.heap = H := ⟨_, rfl⟩
  have hP : va_P (dC, dI) vwCl (WM cy y bd o) H := by rw [← hHe]; exact hP
  have hS : va_S A s.heap H [] := by rw [← hHe]; exact va_S.rf
  rw [w_heap hHe]
  have hi_wsX80 : ∀ w ∈ wsX80, w ∈ wsX8_goes := fun _ h => List.mem_cons_of_mem _ (List.mem_append_right _ h)
  obtain ⟨JR, hE⟩ : ∃ q, jX8_goes o a1 a2 = q := ⟨_, rfl⟩
  have hJ := hE
  rw [jX8_goes] at hJ
  rw [sX8_goes] at hV
  have hV := hV.2
  have hl := lv_entry ([.ref y, .int a1, .long a2]) (n := 4) (Nat.le_of_ble_eq_true rfl)
  rw [lg_entry_eq]
  generalize (lg_sl ([.ref y, .int a1, .long a2]) ++ List.replicate (4 - (lg_sl ([.ref y, .int a1, .long a2])).length) Slot.unset).toArray = ls at hl ⊢
  have hl : lv_has ls 4 [(0, .ref y), (1, .int a1), (2, .long a2)] := hl
  refine lv_aload_n hx hb dX8_goes_0 rfl (lv_at hl 0 rfl) ?_
  refine va_get (D := (dC, dI)) (ci := 6) (v := .ref (bd 0)) (C := RX8) (T := TX8) (N := 20) (fs := wm_f bd o) hx hb hts hi_wsX80 hown hK hP 0 rfl rfl 1 (by decide) (hts (.fieldLink RX8 7 "OrreryDialsModel" "isFine" "[Z") (by decide +kernel)) (fun _ h9 => h9) rfl dX8_goes_1 ?_
  refine lv_iload_n hx hb dX8_goes_4 rfl (lv_at hl 1 rfl) ?_
  obtain ⟨hk1, hV⟩ := hV
  refine va_zald hx hb hK hP 1 2 rfl rfl hk1 dX8_goes_5 ?_
  refine lv_if_eq (tgt := 21) hx hb dX8_goes_6 (by decide) (fun c2 => ?_) (fun c2 => ?_)
  · skip
    rw [if_pos c2] at hJ
    rw [if_pos c2] at hV
    refine lv_aload_n hx hb dX8_goes_21 rfl (lv_at hl 0 rfl) ?_
    refine lv_iload_n hx hb dX8_goes_22 rfl (lv_at hl 1 rfl) ?_
    refine lv_lload_n hx hb dX8_goes_23 rfl (lv_at hl 2 rfl) ?_
    obtain ⟨hk3, hV⟩ := hV
    refine vp_callSf (W.runS (As := [.long a2]) (rest := [.int a1, .ref y]) ⟨hx, hb, hml, hown, hts⟩ (qX8_floatOf l a2 hk3) (va_cwS 1 hts gX8_goes_X8_floatOf rfl rfl rfl (by decide +kernel) ⟨Nat.le_of_ble_eq_true rfl, Nat.le_of_ble_eq_true rfl⟩) ⟨fun _ _ _ _ q => q, fun U hU hW => rfl⟩ rfl rfl hl.1 rfl (lv_room (Nat.le_of_ble_eq_true rfl)) dX8_goes_24 ⟨Nat.le_of_ble_eq_true rfl, Nat.le_of_ble_eq_true rfl⟩) (fun r hq9 => ?_)
    rw [hq9]
    obtain ⟨hk4, hV⟩ := hV
    refine cl_i (va_runV (As := [.int a1, .float (jX8_floatOf a2)]) (rest := []) ⟨hx, hb, hml, hown, hts⟩ (qX8_goesFloat l dC dI cy y bd H.size o a1 (jX8_floatOf a2) hk4) (cwV 2 hts gX8_goes_X8_goesFloat rfl rfl rfl (by decide +kernel) ⟨Nat.le_of_ble_eq_true rfl, Nat.le_of_ble_eq_true rfl⟩) (pV hK hP hD hk (q0 := 0) rfl rfl) rfl rfl hl.1 rfl (lv_room (Nat.le_of_ble_eq_true rfl)) dX8_goes_27 ⟨Nat.le_of_ble_eq_true rfl, Nat.le_of_ble_eq_true rfl⟩) hD hS hA (fun r u H locs hw hP hD hS => ?_)
    have hr1 : r = (jX8_goesFloat o a1 (jX8_floatOf a2)).1 := congrArg Prod.fst hw
    have hu1 : u = (jX8_goesFloat o a1 (jX8_floatOf a2)).2 := congrArg Prod.snd hw
    rw [hu1] at hP hD
    rw [hr1]
    exact W.zret hx hb hr (narrow_bool (bX8_goesFloat o a1 (jX8_floatOf a2))) (fun t ht hW => ⟨⟨_, _, rfl, hJ.trans hE.symm, by rw [ht]; exact hP, va_K.moved hW.alike hK, hD⟩, hS.F ht⟩) hS.2.2 dX8_goes_30
  · skip
    rw [if_neg c2] at hJ
    rw [if_neg c2] at hV
    refine lv_aload_n hx hb dX8_goes_9 rfl (lv_at hl 0 rfl) ?_
    refine lv_iload_n hx hb dX8_goes_10 rfl (lv_at hl 1 rfl) ?_
    refine lv_lload_n hx hb dX8_goes_11 rfl (lv_at hl 2 rfl) ?_
    obtain ⟨hk5, hV⟩ := hV
    refine vp_callSd (W.runS (As := [.long a2]) (rest := [.int a1, .ref y]) ⟨hx, hb, hml, hown, hts⟩ (qX8_doubleOf l a2 hk5) (va_cwS 1 hts gX8_goes_X8_doubleOf rfl rfl rfl (by decide +kernel) ⟨Nat.le_of_ble_eq_true rfl, Nat.le_of_ble_eq_true rfl⟩) ⟨fun _ _ _ _ q => q, fun U hU hW => rfl⟩ rfl rfl hl.1 rfl (lv_room (Nat.le_of_ble_eq_true rfl)) dX8_goes_12 ⟨Nat.le_of_ble_eq_true rfl, Nat.le_of_ble_eq_true rfl⟩) (fun r hq9 => ?_)
    rw [hq9]
    obtain ⟨hk6, hV⟩ := hV
    refine cl_i (va_runV (As := [.int a1, .double (jX8_doubleOf a2)]) (rest := []) ⟨hx, hb, hml, hown, hts⟩ (qX8_goesDouble l dC dI cy y bd H.size o a1 (jX8_doubleOf a2) hk6) (cwV 2 hts gX8_goes_X8_goesDouble rfl rfl rfl (by decide +kernel) ⟨Nat.le_of_ble_eq_true rfl, Nat.le_of_ble_eq_true rfl⟩) (pV hK hP hD hk (q0 := 0) rfl rfl) rfl rfl hl.1 rfl (lv_room (Nat.le_of_ble_eq_true rfl)) dX8_goes_15 ⟨Nat.le_of_ble_eq_true rfl, Nat.le_of_ble_eq_true rfl⟩) hD hS hA (fun r u H locs hw hP hD hS => ?_)
    have hr1 : r = (jX8_goesDouble o a1 (jX8_doubleOf a2)).1 := congrArg Prod.fst hw
    have hu1 : u = (jX8_goesDouble o a1 (jX8_doubleOf a2)).2 := congrArg Prod.snd hw
    rw [hu1] at hP hD
    rw [hr1]
    refine lv_goto (tgt := 30) hx hb dX8_goes_18 (by decide) ?_
    exact W.zret hx hb hr (narrow_bool (bX8_goesDouble o a1 (jX8_doubleOf a2))) (fun t ht hW => ⟨⟨_, _, rfl, hJ.trans hE.symm, by rw [ht]; exact hP, va_K.moved hW.alike hK, hD⟩, hS.F ht⟩) hS.2.2 dX8_goes_30
theorem bX8_goes (o : Ms) (a1 : Int32) (a2 : Int64) : (jX8_goes o a1 a2).1 = 0 ∨ (jX8_goes o a1 a2).1 = 1 := by
  unfold jX8_goes
  exact (ib (bX8_goesFloat o a1 (jX8_floatOf a2)) (bX8_goesDouble o a1 (jX8_doubleOf a2)))
def jX8_turn (o : Ms) (a1 : Int32) (a2 : Int64) : Int32 × Ms := (if (jX8_isDial o a1) = 0 then ((-101 : Int32), o) else (if (jX8_isFit (m_isFine o a1.toNatClampNeg) a2) = 0 then ((-102 : Int32), o) else (if ((jX8_goes o a1 a2).1) = 0 then ((jX8_fails ((jX8_goes o a1 a2).2) (-15 : Int32)).1, (jX8_fails ((jX8_goes o a1 a2).2) (-15 : Int32)).2) else ((jX8_done ((jX8_goes o a1 a2).2) (1 : Int32)).1, (jX8_done ((jX8_goes o a1 a2).2) (1 : Int32)).2))))
def sX8_turn (o : Ms) (a1 : Int32) (a2 : Int64) : Prop := True ∧ (if (jX8_isDial o a1) = 0 then True else (vp_in a1 12 ∧ (if (jX8_isFit (m_isFine o a1.toNatClampNeg) a2) = 0 then True else (sX8_goes o a1 a2 ∧ (if ((jX8_goes o a1 a2).1) = 0 then (sX8_fails ((jX8_goes o a1 a2).2) (-15 : Int32) ∧ True) else True)))))
set_option linter.constructorNameAsVariable false in
set_option maxHeartbeats 8000000 in
set_option maxRecDepth 100000 in
theorem qX8_turn (l : Launch) (dC : Nat → ClassId) (dI : Nat → Nat → Nat) (cy : Nat → ClassId) (y : Nat) (bd : Nat → Nat) (sz : Nat) (o : Ms) (a1 : Int32) (a2 : Int64) (hV : sX8_turn o a1 a2) : Met l yX8_turn wsX8_turn ({ frames := 3, cells := 0, slots := 0, locals := 69 }) (va_Pc [.ref y, .int a1, .long a2] (wI (dC, dI) (tyA cy) (WM cy y bd o) sz)) (va_Qi (fun r u => (r, u) = jX8_turn o a1 a2) (fun u t => wO (dC, dI) (tyA cy) (va_A (WM cy y bd o) sz) (WM cy y bd u) t) (va_A (WM cy y bd o) sz)) 0 0 (va_A (WM cy y bd o) sz) := by
  refine Met.ofW (cc := cX8_turn) (maxL := 4) (ret := some .int) (by decide) rfl ?_
  intro p e s m args below meth c s₁ B hml hv
  obtain ⟨rfl, hsz, hP, hK, hD0, hk⟩ := hv
  have hx := B.exec
  have hb := B.bytes
  have hr := B.returns
  have hts := atoms_spec (ws := wsX8_turn) B.pre
  have hown : s.vm.findClass RX8 = some m.cls := findClass_of_methodNamed B.named
  have hlocks := B.notSynchronized
  subst hsz
  have hD := hD0.self (sz := s.heap.size)
  generalize hAe : va_A (WM cy y bd o) s.heap.size = A at hD ⊢
  have hA : ∀ q : Nat, s.heap.size ≤ q → A q := fun q h => by rw [← hAe]; exact Or.inr h
  obtain ⟨H, hHe⟩ : ∃ H, s.heap = H := ⟨_, rfl⟩
  have hP : va_P (dC, dI) vwCl (WM cy y bd o) H := by rw [← hHe]; exact hP
  have hS : va_S A s.heap H [] := by rw [← hHe]; exact va_S.rf
  rw [w_heap hHe]
  have hi_wsX80 : ∀ w ∈ wsX80, w ∈ wsX8_turn := fun _ h => List.mem_cons_of_mem _ (List.mem_append_right _ h)
  obtain ⟨JR, hE⟩ : ∃ q, jX8_turn o a1 a2 = q := ⟨_, rfl⟩
  have hJ := hE
  rw [jX8_turn] at hJ
  rw [sX8_turn] at hV
  have hV := hV.2
  have hl := lv_entry ([.ref y, .int a1, .long a2]) (n := 4) (Nat.le_of_ble_eq_true rfl)
  rw [lg_entry_eq]
  generalize (lg_sl ([.ref y, .int a1, .long a2]) ++ List.replicate (4 - (lg_sl ([.ref y, .int a1, .long a2])).length) Slot.unset).toArray = ls at hl ⊢
  have hl : lv_has ls 4 [(0, .ref y), (1, .int a1), (2, .long a2)] := hl
  refine lv_aload_n hx hb dX8_turn_0 rfl (lv_at hl 0 rfl) ?_
  refine lv_iload_n hx hb dX8_turn_1 rfl (lv_at hl 1 rfl) ?_
  refine vp_callSi (W.runV (As := [.int a1]) (rest := []) ⟨hx, hb, hml, hown, hts⟩ (qX8_isDial l dC dI cy y bd H.size o a1) (cwV 1 hts gX8_turn_X8_isDial rfl rfl rfl (by decide +kernel) ⟨Nat.le_of_ble_eq_true rfl, Nat.le_of_ble_eq_true rfl⟩) (pV hK hP hD hk (q0 := 0) rfl rfl) rfl rfl hl.1 rfl (lv_room (Nat.le_of_ble_eq_true rfl)) dX8_turn_2 ⟨Nat.le_of_ble_eq_true rfl, Nat.le_of_ble_eq_true rfl⟩) (fun r hq9 => ?_)
  rw [hq9]
  refine lv_if_ne (tgt := 11) hx hb dX8_turn_5 (by decide) (fun c1 => ?_) (fun c1 => ?_)
  · skip
    rw [if_neg c1] at hJ
    rw [if_neg c1] at hV
    refine lv_aload_n hx hb dX8_turn_11 rfl (lv_at hl 0 rfl) ?_
    refine va_get (D := (dC, dI)) (ci := 6) (v := .ref (bd 0)) (C := RX8) (T := TX8) (N := 20) (fs := wm_f bd o) hx hb hts hi_wsX80 hown hK hP 0 rfl rfl 1 (by decide) (hts (.fieldLink RX8 7 "OrreryDialsModel" "isFine" "[Z") (by decide +kernel)) (fun _ h9 => h9) rfl dX8_turn_12 ?_
    refine lv_iload_n hx hb dX8_turn_15 rfl (lv_at hl 1 rfl) ?_
    obtain ⟨hk2, hV⟩ := hV
    refine va_zald hx hb hK hP 1 2 rfl rfl hk2 dX8_turn_16 ?_
    refine lv_lload_n hx hb dX8_turn_17 rfl (lv_at hl 2 rfl) ?_
    refine vp_callSi (W.runS (As := [.int (m_isFine o a1.toNatClampNeg), .long a2]) (rest := []) ⟨hx, hb, hml, hown, hts⟩ (qX8_isFit l (m_isFine o a1.toNatClampNeg) a2) (va_cwS 2 hts gX8_turn_X8_isFit rfl rfl rfl (by decide +kernel) ⟨Nat.le_of_ble_eq_true rfl, Nat.le_of_ble_eq_true rfl⟩) ⟨fun _ _ _ _ q => q, fun U hU hW => rfl⟩ rfl rfl hl.1 rfl (lv_room (Nat.le_of_ble_eq_true rfl)) dX8_turn_18 ⟨Nat.le_of_ble_eq_true rfl, Nat.le_of_ble_eq_true rfl⟩) (fun r hq9 => ?_)
    rw [hq9]
    refine lv_if_ne (tgt := 27) hx hb dX8_turn_21 (by decide) (fun c3 => ?_) (fun c3 => ?_)
    · skip
      rw [if_neg c3] at hJ
      rw [if_neg c3] at hV
      refine lv_aload_n hx hb dX8_turn_27 rfl (lv_at hl 0 rfl) ?_
      refine lv_iload_n hx hb dX8_turn_28 rfl (lv_at hl 1 rfl) ?_
      refine lv_lload_n hx hb dX8_turn_29 rfl (lv_at hl 2 rfl) ?_
      obtain ⟨hk4, hV⟩ := hV
      refine cl_i (va_runV (As := [.int a1, .long a2]) (rest := []) ⟨hx, hb, hml, hown, hts⟩ (qX8_goes l dC dI cy y bd H.size o a1 a2 hk4) (cwV 2 hts gX8_turn_X8_goes rfl rfl rfl (by decide +kernel) ⟨Nat.le_of_ble_eq_true rfl, Nat.le_of_ble_eq_true rfl⟩) (pV hK hP hD hk (q0 := 0) rfl rfl) rfl rfl hl.1 rfl (lv_room (Nat.le_of_ble_eq_true rfl)) dX8_turn_30 ⟨Nat.le_of_ble_eq_true rfl, Nat.le_of_ble_eq_true rfl⟩) hD hS hA (fun r u H locs hw hP hD hS => ?_)
      have hr1 : r = (jX8_goes o a1 a2).1 := congrArg Prod.fst hw
      have hu1 : u = (jX8_goes o a1 a2).2 := congrArg Prod.snd hw
      rw [hu1] at hP hD
      rw [hr1]
      refine lv_if_eq (tgt := 44) hx hb dX8_turn_33 (by decide) (fun c5 => ?_) (fun c5 => ?_)
      · skip
        rw [if_pos c5] at hJ
        rw [if_pos c5] at hV
        refine lv_aload_n hx hb dX8_turn_44 rfl (lv_at hl 0 rfl) ?_
        refine lv_bipush (v := (-15 : Int32)) hx hb dX8_turn_45 (by decide) ?_
        obtain ⟨hk6, hV⟩ := hV
        refine cl_i (va_runV (As := [.int (-15 : Int32)]) (rest := []) ⟨hx, hb, hml, hown, hts⟩ (qX8_fails l dC dI cy y bd H.size ((jX8_goes o a1 a2).2) (-15 : Int32) hk6) (cwV 1 hts gX8_turn_X8_fails rfl rfl rfl (by decide +kernel) ⟨Nat.le_of_ble_eq_true rfl, Nat.le_of_ble_eq_true rfl⟩) (pV hK hP hD hk (q0 := 0) rfl rfl) rfl rfl hl.1 rfl (lv_room (Nat.le_of_ble_eq_true rfl)) dX8_turn_47 ⟨Nat.le_of_ble_eq_true rfl, Nat.le_of_ble_eq_true rfl⟩) hD hS hA (fun r u H locs hw hP hD hS => ?_)
        have hr1 : r = (jX8_fails ((jX8_goes o a1 a2).2) (-15 : Int32)).1 := congrArg Prod.fst hw
        have hu1 : u = (jX8_fails ((jX8_goes o a1 a2).2) (-15 : Int32)).2 := congrArg Prod.snd hw
        rw [hu1] at hP hD
        rw [hr1]
        exact W.iret hx hb hr (fun t ht hW => ⟨⟨_, _, rfl, hJ.trans hE.symm, by rw [ht]; exact hP, va_K.moved hW.alike hK, hD⟩, hS.F ht⟩) hS.2.2 dX8_turn_50
      · skip
        rw [if_neg c5] at hJ
        rw [if_neg c5] at hV
        refine lv_aload_n hx hb dX8_turn_36 rfl (lv_at hl 0 rfl) ?_
        refine lv_iconst (v := (1 : Int32)) hx hb dX8_turn_37 (by decide) ?_
        refine cl_i (va_runV (As := [.int (1 : Int32)]) (rest := []) ⟨hx, hb, hml, hown, hts⟩ (qX8_done l dC dI cy y bd H.size ((jX8_goes o a1 a2).2) (1 : Int32)) (cwV 1 hts gX8_turn_X8_done rfl rfl rfl (by decide +kernel) ⟨Nat.le_of_ble_eq_true rfl, Nat.le_of_ble_eq_true rfl⟩) (pV hK hP hD hk (q0 := 0) rfl rfl) rfl rfl hl.1 rfl (lv_room (Nat.le_of_ble_eq_true rfl)) dX8_turn_38 ⟨Nat.le_of_ble_eq_true rfl, Nat.le_of_ble_eq_true rfl⟩) hD hS hA (fun r u H locs hw hP hD hS => ?_)
        have hr1 : r = (jX8_done ((jX8_goes o a1 a2).2) (1 : Int32)).1 := congrArg Prod.fst hw
        have hu1 : u = (jX8_done ((jX8_goes o a1 a2).2) (1 : Int32)).2 := congrArg Prod.snd hw
        rw [hu1] at hP hD
        rw [hr1]
        refine lv_goto (tgt := 50) hx hb dX8_turn_41 (by decide) ?_
        exact W.iret hx hb hr (fun t ht hW => ⟨⟨_, _, rfl, hJ.trans hE.symm, by rw [ht]; exact hP, va_K.moved hW.alike hK, hD⟩, hS.F ht⟩) hS.2.2 dX8_turn_50
    · skip
      rw [if_pos c3] at hJ
      rw [if_pos c3] at hV
      refine lv_bipush (v := (-102 : Int32)) hx hb dX8_turn_24 (by decide) ?_
      exact W.iret hx hb hr (fun t ht hW => ⟨⟨_, _, rfl, hJ.trans hE.symm, by rw [ht]; exact hP, va_K.moved hW.alike hK, hD⟩, hS.F ht⟩) hS.2.2 dX8_turn_26
  · skip
    rw [if_pos c1] at hJ
    rw [if_pos c1] at hV
    refine lv_bipush (v := (-101 : Int32)) hx hb dX8_turn_8 (by decide) ?_
    exact W.iret hx hb hr (fun t ht hW => ⟨⟨_, _, rfl, hJ.trans hE.symm, by rw [ht]; exact hP, va_K.moved hW.alike hK, hD⟩, hS.F ht⟩) hS.2.2 dX8_turn_10
