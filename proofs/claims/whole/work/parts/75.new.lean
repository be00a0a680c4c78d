/-! dials and drives are made: the class's world grows -/
theorem tl_P {D : va_G} {ws : va_W} {q : Nat} {e : va_E} {H : Heap} (h : va_P D vwCl (ws ++ [(q, e)]) H) : va_P D vwCl [(q, e)] H := fun k x hk => h (ws.length + k) x ((ap_get rfl).trans hk)
theorem tl_D {A : Nat → Prop} {ws : va_W} {q : Nat} {e : va_E} (h : va_D A (ws ++ [(q, e)])) : va_D A [(q, e)] := by
  refine ⟨fun i j p r hi hj _ => ?_, fun k x hk => h.2 (ws.length + k) x ((ap_get rfl).trans hk)⟩
  have h1 := (List.getElem?_eq_some_iff.mp hi).1
  have h2 := (List.getElem?_eq_some_iff.mp hj).1
  simp at h1 h2
  omega
theorem em_P {D : va_G} {H : Heap} : va_P D vwCl ([] : va_W) H := fun k q h => by simp at h
theorem em_D {A : Nat → Prop} : va_D A ([] : va_W) := ⟨fun i j p q h => by simp at h, fun k q h => by simp at h⟩
/-- the drive that is made -/
def nw_e (a0 a1 : Int32) (a2 : Int64) : va_E := if a0 = 0 then .inr (4, [.int a1, .long a2, .int 0]) else if a0 = 1 then .inr (0, [.int a1, .long a2, .int 0, .int 1]) else .inr (2, [.int 1, .int a1, .long a2, .int 0])
theorem nw_0 {a0 a1 : Int32} {a2 : Int64} (h : a0 = 0) : nw_e a0 a1 a2 = .inr (4, [.int a1, .long a2, .int 0]) := if_pos h
theorem nw_1 {a0 a1 : Int32} {a2 : Int64} (h : ¬ a0 = 0) (h1 : a0 = 1) : nw_e a0 a1 a2 = .inr (0, [.int a1, .long a2, .int 0, .int 1]) := (if_neg h).trans (if_pos h1)
theorem nw_2 {a0 a1 : Int32} {a2 : Int64} (h : ¬ a0 = 0) (h1 : ¬ a0 = 1) : nw_e a0 a1 a2 = .inr (2, [.int 1, .int a1, .long a2, .int 0]) := (if_neg h).trans (if_neg h1)
theorem nw_c {s : State} (hk : kX s) (a0 a1 : Int32) (a2 : Int64) : ∃ (ci : Nat) (vs : List Value) (r : vw_C), nw_e a0 a1 a2 = .inr (ci, vs) ∧ vwCl[ci]? = some r ∧ va_Nw (.castable r.1 RX2) s := by
  by_cases h : a0 = 0
  · exact ⟨4, _, _, nw_0 h, rfl, hk.2.2.1⟩
  · by_cases h1 : a0 = 1
    · exact ⟨0, _, _, nw_1 h h1, rfl, hk.1⟩
    · exact ⟨2, _, _, nw_2 h h1, rfl, hk.2.1⟩
set_option linter.constructorNameAsVariable false in
set_option maxHeartbeats 8000000 in
set_option maxRecDepth 100000 in
theorem qX7_newDrive (l : Launch) (dC : Nat → ClassId) (dI : Nat → Nat → Nat) (cy : Nat → ClassId) (sz : Nat) (a0 a1 : Int32) (a2 : Int64) : Met l yX7_newDrive wsX7_newDrive ({ frames := 4, cells := 1, slots := 4, locals := 100 }) (va_Pc [.int a0, .int a1, .long a2] (wI (dC, dI) (tyA cy) [] sz)) (va_Qr (fun _ : Unit => True) (fun _ b t => wO (dC, dI) (tyA cy) (va_A [] sz) [(b, nw_e a0 a1 a2)] t) (va_A [] sz)) 1 4 (va_A [] sz) := by
  refine Met.ofW (cc := cX7_newDrive) (maxL := 4) (ret := some (.object "OrreryDials$Drive")) (by decide) rfl ?_
  intro p e s m args below meth c s₁ B hml hv
  obtain ⟨rfl, hsz, hP, hK, hD0, hk⟩ := hv
  have hx := B.exec
  have hb := B.bytes
  have hr := B.returns
  have hts := atoms_spec (ws := wsX7_newDrive) B.pre
  have hown : s.vm.findClass RX7 = some m.cls := findClass_of_methodNamed B.named
  have hlocks := B.notSynchronized
  subst hsz
  have hD := hD0.self (sz := s.heap.size)
  generalize hAe : va_A [] s.heap.size = A at hD ⊢
  have hA : ∀ q : Nat, s.heap.size ≤ q → A q := fun q h => by rw [← hAe]; exact Or.inr h
  obtain ⟨H, hHe⟩ : ∃ H, s.heap = H := ⟨_, rfl⟩
  have hP : va_P (dC, dI) vwCl [] H := by rw [← hHe]; exact hP
  have hS : va_S A s.heap H [] := by rw [← hHe]; exact va_S.rf
  rw [w_heap hHe]
  have hi_wsX60 : ∀ w ∈ wsX60, w ∈ wsX7_newDrive := fun _ h => List.mem_cons_of_mem _ (List.mem_append_left _ (List.mem_append_left _ (List.mem_append_right _ h)))
  have hi_wsX00 : ∀ w ∈ wsX00, w ∈ wsX7_newDrive := fun _ h => List.mem_cons_of_mem _ (List.mem_append_left _ (List.mem_append_right _ h))
  have hi_wsX30 : ∀ w ∈ wsX30, w ∈ wsX7_newDrive := fun _ h => List.mem_cons_of_mem _ (List.mem_append_right _ h)
  have hl := lv_entry ([.int a0, .int a1, .long a2]) (n := 4) (Nat.le_of_ble_eq_true rfl)
  rw [lg_entry_eq]
  generalize (lg_sl ([.int a0, .int a1, .long a2]) ++ List.replicate (4 - (lg_sl ([.int a0, .int a1, .long a2])).length) Slot.unset).toArray = ls at hl ⊢
  have hl : lv_has ls 4 [(0, .int a0), (1, .int a1), (2, .long a2)] := hl
  refine lv_iload_n hx hb dX7_newDrive_0 rfl (lv_at hl 0 rfl) ?_
  refine lv_if_ne (tgt := 14) hx hb dX7_newDrive_1 (by decide) (fun c1 => ?_) (fun c1 => ?_)
  · skip
    refine lv_iload_n hx hb dX7_newDrive_14 rfl (lv_at hl 0 rfl) ?_
    refine lv_iconst (v := (1 : Int32)) hx hb dX7_newDrive_15 (by decide) ?_
    refine lv_icmp_ne (tgt := 31) hx hb dX7_newDrive_16 (by decide) (fun c2 => ?_) (fun c2 => ?_)
    · skip
      refine va_new (D := (dC, dI)) (ci := 2) (fs := [.int 0, .int 0, .long 0, .int 0]) (C := RX3) (T := TX3) (N := 4) hx hb hts hi_wsX30 tyX3 tyX3_ok hown (hts (.classLink RX7 182 RX3) (by decide +kernel)) (hts (.instantiable RX3 4) (by decide +kernel)) (hts (.initialized RX3) (by decide +kernel)) hK hP hD hS hA rfl (fun j hj => by rcases (show j = 0 ∨ j = 1 ∨ j = 2 ∨ j = 3 by omega) with rfl | rfl | rfl | rfl <;> rfl) (Nat.le_of_ble_eq_true rfl) (Nat.le_of_ble_eq_true rfl) dX7_newDrive_31 (fun q4 H hP hD hS => ?_)
      refine lv_dup hx hb dX7_newDrive_34 rfl ?_
      refine lv_iload_n hx hb dX7_newDrive_35 rfl (lv_at hl 1 rfl) ?_
      refine lv_lload_n hx hb dX7_newDrive_36 rfl (lv_at hl 2 rfl) ?_
      refine cl_tail (ws := []) (va_runI (As := [.int a1, .long a2]) (rest := [.ref q4]) ⟨hx, hb, hml, hown, hts⟩ (qX3_init l dC dI cy q4 H.size a1 a2) (cwI 2 hts gX7_newDrive_X3_init rfl rfl rfl (hts (.initialized RX3) (by decide +kernel)) (hts (.methodLink RX7 184 yX3_init) (by decide +kernel)) (hts (.instanceMethod yX3_init) (by decide +kernel)) rfl (by decide +kernel) ⟨Nat.le_of_ble_eq_true rfl, Nat.le_of_ble_eq_true rfl⟩) (pS hK (tl_P (ws := []) hP) (tl_D (ws := []) hD) hk) rfl rfl hl.1 rfl (lv_room (Nat.le_of_ble_eq_true rfl)) dX7_newDrive_37 ⟨Nat.le_of_ble_eq_true rfl, Nat.le_of_ble_eq_true rfl⟩) hP hD hS hA (fun H locs hP hD hS => ?_)
      have hP : va_P (dC, dI) vwCl [(q4, .inr (2, [.int 1, .int a1, .long a2, .int 0]))] H := hP
      have hD : va_D A [(q4, .inr (2, [.int 1, .int a1, .long a2, .int 0]))] := hD
      rw [← nw_2 (a1 := a1) (a2 := a2) c1 c2] at hP hD
      refine W.widen (k := 1) (n := 4) (Nat.le_of_ble_eq_true rfl) (Nat.le_of_ble_eq_true rfl) ?_
      exact W.aret (v := .ref q4) hx hb hr (Or.inl ⟨_, rfl⟩) (Or.inr ⟨_, rfl⟩) (fun t ht hW => ⟨⟨(), q4, rfl, trivial, by rw [ht]; exact hP, va_K.moved hW.alike hK, hD⟩, hS.F ht⟩) hS.2.2 dX7_newDrive_40
    · skip
      refine va_new (D := (dC, dI)) (ci := 0) (fs := [.int 0, .long 0, .int 0, .int 0]) (C := RX0) (T := TX0) (N := 4) hx hb hts hi_wsX00 tyX0 tyX0_ok hown (hts (.classLink RX7 112 RX0) (by decide +kernel)) (hts (.instantiable RX0 4) (by decide +kernel)) (hts (.initialized RX0) (by decide +kernel)) hK hP hD hS hA rfl (fun j hj => by rcases (show j = 0 ∨ j = 1 ∨ j = 2 ∨ j = 3 by omega) with rfl | rfl | rfl | rfl <;> rfl) (Nat.le_of_ble_eq_true rfl) (Nat.le_of_ble_eq_true rfl) dX7_newDrive_19 (fun q4 H hP hD hS => ?_)
      refine lv_dup hx hb dX7_newDrive_22 rfl ?_
      refine lv_iload_n hx hb dX7_newDrive_23 rfl (lv_at hl 1 rfl) ?_
      refine lv_lload_n hx hb dX7_newDrive_24 rfl (lv_at hl 2 rfl) ?_
      refine cl_tail (ws := []) (va_runI (As := [.int a1, .long a2]) (rest := [.ref q4]) ⟨hx, hb, hml, hown, hts⟩ (qX0_init_X0 l dC dI cy q4 H.size a1 a2) (cwI 2 hts gX7_newDrive_X0_init rfl rfl rfl (hts (.initialized RX0) (by decide +kernel)) (hts (.methodLink RX7 181 yX0_init) (by decide +kernel)) (hts (.instanceMethod yX0_init) (by decide +kernel)) rfl (by decide +kernel) ⟨Nat.le_of_ble_eq_true rfl, Nat.le_of_ble_eq_true rfl⟩) (pS hK (tl_P (ws := []) hP) (tl_D (ws := []) hD) hk) rfl rfl hl.1 rfl (lv_room (Nat.le_of_ble_eq_true rfl)) dX7_newDrive_25 ⟨Nat.le_of_ble_eq_true rfl, Nat.le_of_ble_eq_true rfl⟩) hP hD hS hA (fun H locs hP hD hS => ?_)
      have hP : va_P (dC, dI) vwCl [(q4, .inr (0, [.int a1, .long a2, .int 0, .int 1]))] H := hP
      have hD : va_D A [(q4, .inr (0, [.int a1, .long a2, .int 0, .int 1]))] := hD
      rw [← nw_1 (a1 := a1) (a2 := a2) c1 c2] at hP hD
      refine lv_goto (tgt := 40) hx hb dX7_newDrive_28 (by decide) ?_
      refine W.widen (k := 1) (n := 4) (Nat.le_of_ble_eq_true rfl) (Nat.le_of_ble_eq_true rfl) ?_
      exact W.aret (v := .ref q4) hx hb hr (Or.inl ⟨_, rfl⟩) (Or.inr ⟨_, rfl⟩) (fun t ht hW => ⟨⟨(), q4, rfl, trivial, by rw [ht]; exact hP, va_K.moved hW.alike hK, hD⟩, hS.F ht⟩) hS.2.2 dX7_newDrive_40
  · skip
    refine va_new (D := (dC, dI)) (ci := 4) (fs := [.int 0, .long 0, .int 0]) (C := RX6) (T := TX6) (N := 3) hx hb hts hi_wsX60 tyX6 tyX6_ok hown (hts (.classLink RX7 176 RX6) (by decide +kernel)) (hts (.instantiable RX6 3) (by decide +kernel)) (hts (.initialized RX6) (by decide +kernel)) hK hP hD hS hA rfl (fun j hj => by rcases (show j = 0 ∨ j = 1 ∨ j = 2 by omega) with rfl | rfl | rfl <;> rfl) (Nat.le_of_ble_eq_true rfl) (Nat.le_of_ble_eq_true rfl) dX7_newDrive_4 (fun q4 H hP hD hS => ?_)
    refine lv_dup hx hb dX7_newDrive_7 rfl ?_
    refine lv_iload_n hx hb dX7_newDrive_8 rfl (lv_at hl 1 rfl) ?_
    refine lv_lload_n hx hb dX7_newDrive_9 rfl (lv_at hl 2 rfl) ?_
    refine cl_tail (ws := []) (va_runI (As := [.int a1, .long a2]) (rest := [.ref q4]) ⟨hx, hb, hml, hown, hts⟩ (qX6_init l dC dI cy q4 H.size a1 a2) (cwI 2 hts gX7_newDrive_X6_init rfl rfl rfl (hts (.initialized RX6) (by decide +kernel)) (hts (.methodLink RX7 178 yX6_init) (by decide +kernel)) (hts (.instanceMethod yX6_init) (by decide +kernel)) rfl (by decide +kernel) ⟨Nat.le_of_ble_eq_true rfl, Nat.le_of_ble_eq_true rfl⟩) (pS hK (tl_P (ws := []) hP) (tl_D (ws := []) hD) hk) rfl rfl hl.1 rfl (lv_room (Nat.le_of_ble_eq_true rfl)) dX7_newDrive_10 ⟨Nat.le_of_ble_eq_true rfl, Nat.le_of_ble_eq_true rfl⟩) hP hD hS hA (fun H locs hP hD hS => ?_)
    have hP : va_P (dC, dI) vwCl [(q4, .inr (4, [.int a1, .long a2, .int 0]))] H := hP
    have hD : va_D A [(q4, .inr (4, [.int a1, .long a2, .int 0]))] := hD
    rw [← nw_0 (a1 := a1) (a2 := a2) c1] at hP hD
    refine W.widen (k := 1) (n := 4) (Nat.le_of_ble_eq_true rfl) (Nat.le_of_ble_eq_true rfl) ?_
    exact W.aret (v := .ref q4) hx hb hr (Or.inl ⟨_, rfl⟩) (Or.inr ⟨_, rfl⟩) (fun t ht hW => ⟨⟨(), q4, rfl, trivial, by rw [ht]; exact hP, va_K.moved hW.alike hK, hD⟩, hS.F ht⟩) hS.2.2 dX7_newDrive_13
