def jX7_isSlot (a0 : Int32) : Int32 := (if a0 < 0 then (0 : Int32) else (if (6 : Int32) ≤ a0 then (0 : Int32) else (1 : Int32)))
set_option linter.constructorNameAsVariable false in
set_option maxHeartbeats 8000000 in
set_option maxRecDepth 100000 in
theorem qX7_isSlot (l : Launch) (a0 : Int32) : Met l yX7_isSlot wsX7_isSlot ({ frames := 0, cells := 0, slots := 0, locals := 0 }) (fun v _ => v = ([.int a0] : List Value).toArray) (vp_Si (fun r => r = jX7_isSlot a0)) 0 0 (fun _ => False) := by
  refine Met.ofW (cc := cX7_isSlot) (maxL := 1) (ret := some .boolean) (by decide) rfl ?_
  intro p e s m args below meth c s₁ B hml hv
  subst hv
  have hx := B.exec
  have hb := B.bytes
  have hr := B.returns
  have hts := atoms_spec (ws := wsX7_isSlot) B.pre
  have hown : s.vm.findClass RX7 = some m.cls := findClass_of_methodNamed B.named
  have hlocks := B.notSynchronized
  obtain ⟨JR, hE⟩ : ∃ q, jX7_isSlot a0 = q := ⟨_, rfl⟩
  have hJ := hE
  rw [jX7_isSlot] at hJ
  have hl := lv_entry ([.int a0]) (n := 1) (Nat.le_of_ble_eq_true rfl)
  rw [lg_entry_eq]
  generalize (lg_sl ([.int a0]) ++ List.replicate (1 - (lg_sl ([.int a0])).length) Slot.unset).toArray = ls at hl ⊢
  have hl : lv_has ls 1 [(0, .int a0)] := hl
  refine lv_iload_n hx hb dX7_isSlot_0 rfl (lv_at hl 0 rfl) ?_
  refine lv_if_lt (tgt := 14) hx hb dX7_isSlot_1 (by decide) (fun c1 => ?_) (fun c1 => ?_)
  · skip
    rw [if_pos c1] at hJ
    refine lv_iconst (v := (0 : Int32)) hx hb dX7_isSlot_14 (by decide) ?_
    exact W.zret hx hb hr rfl (fun t ht hW => ⟨_, rfl, hJ.trans hE.symm, ht⟩) (fun q h => absurd h List.not_mem_nil) dX7_isSlot_15
  · skip
    rw [if_neg c1] at hJ
    refine lv_iload_n hx hb dX7_isSlot_4 rfl (lv_at hl 0 rfl) ?_
    refine lv_bipush (v := (6 : Int32)) hx hb dX7_isSlot_5 (by decide) ?_
    refine lv_icmp_ge (tgt := 14) hx hb dX7_isSlot_7 (by decide) (fun c2 => ?_) (fun c2 => ?_)
    · skip
      rw [if_pos c2] at hJ
      refine lv_iconst (v := (0 : Int32)) hx hb dX7_isSlot_14 (by decide) ?_
      exact W.zret hx hb hr rfl (fun t ht hW => ⟨_, rfl, hJ.trans hE.symm, ht⟩) (fun q h => absurd h List.not_mem_nil) dX7_isSlot_15
    · skip
      rw [if_neg c2] at hJ
      refine lv_iconst (v := (1 : Int32)) hx hb dX7_isSlot_10 (by decide) ?_
      refine lv_goto (tgt := 15) hx hb dX7_isSlot_11 (by decide) ?_
      exact W.zret hx hb hr rfl (fun t ht hW => ⟨_, rfl, hJ.trans hE.symm, ht⟩) (fun q h => absurd h List.not_mem_nil) dX7_isSlot_15
theorem bX7_isSlot (a0 : Int32) : (jX7_isSlot a0) = 0 ∨ (jX7_isSlot a0) = 1 := by
  unfold jX7_isSlot
  exact (ibs (Or.inl rfl) (ibs (Or.inl rfl) (Or.inr rfl)))
def jX7_isShaft (a0 : Int32) : Int32 := (if a0 < 0 then (0 : Int32) else (if (2 : Int32) ≤ a0 then (0 : Int32) else (1 : Int32)))
set_option linter.constructorNameAsVariable false in
set_option maxHeartbeats 8000000 in
set_option maxRecDepth 100000 in
theorem qX7_isShaft (l : Launch) (a0 : Int32) : Met l yX7_isShaft wsX7_isShaft ({ frames := 0, cells := 0, slots := 0, locals := 0 }) (fun v _ => v = ([.int a0] : List Value).toArray) (vp_Si (fun r => r = jX7_isShaft a0)) 0 0 (fun _ => False) := by
  refine Met.ofW (cc := cX7_isShaft) (maxL := 1) (ret := some .boolean) (by decide) rfl ?_
  intro p e s m args below meth c s₁ B hml hv
  subst hv
  have hx := B.exec
  have hb := B.bytes
  have hr := B.returns
  have hts := atoms_spec (ws := wsX7_isShaft) B.pre
  have hown : s.vm.findClass RX7 = some m.cls := findClass_of_methodNamed B.named
  have hlocks := B.notSynchronized
  obtain ⟨JR, hE⟩ : ∃ q, jX7_isShaft a0 = q := ⟨_, rfl⟩
  have hJ := hE
  rw [jX7_isShaft] at hJ
  have hl := lv_entry ([.int a0]) (n := 1) (Nat.le_of_ble_eq_true rfl)
  rw [lg_entry_eq]
  generalize (lg_sl ([.int a0]) ++ List.replicate (1 - (lg_sl ([.int a0])).length) Slot.unset).toArray = ls at hl ⊢
  have hl : lv_has ls 1 [(0, .int a0)] := hl
  refine lv_iload_n hx hb dX7_isShaft_0 rfl (lv_at hl 0 rfl) ?_
  refine lv_if_lt (tgt := 13) hx hb dX7_isShaft_1 (by decide) (fun c1 => ?_) (fun c1 => ?_)
  · skip
    rw [if_pos c1] at hJ
    refine lv_iconst (v := (0 : Int32)) hx hb dX7_isShaft_13 (by decide) ?_
    exact W.zret hx hb hr rfl (fun t ht hW => ⟨_, rfl, hJ.trans hE.symm, ht⟩) (fun q h => absurd h List.not_mem_nil) dX7_isShaft_14
  · skip
    rw [if_neg c1] at hJ
    refine lv_iload_n hx hb dX7_isShaft_4 rfl (lv_at hl 0 rfl) ?_
    refine lv_iconst (v := (2 : Int32)) hx hb dX7_isShaft_5 (by decide) ?_
    refine lv_icmp_ge (tgt := 13) hx hb dX7_isShaft_6 (by decide) (fun c2 => ?_) (fun c2 => ?_)
    · skip
      rw [if_pos c2] at hJ
      refine lv_iconst (v := (0 : Int32)) hx hb dX7_isShaft_13 (by decide) ?_
      exact W.zret hx hb hr rfl (fun t ht hW => ⟨_, rfl, hJ.trans hE.symm, ht⟩) (fun q h => absurd h List.not_mem_nil) dX7_isShaft_14
    · skip
      rw [if_neg c2] at hJ
      refine lv_iconst (v := (1 : Int32)) hx hb dX7_isShaft_9 (by decide) ?_
      refine lv_goto (tgt := 14) hx hb dX7_isShaft_10 (by decide) ?_
      exact W.zret hx hb hr rfl (fun t ht hW => ⟨_, rfl, hJ.trans hE.symm, ht⟩) (fun q h => absurd h List.not_mem_nil) dX7_isShaft_14
theorem bX7_isShaft (a0 : Int32) : (jX7_isShaft a0) = 0 ∨ (jX7_isShaft a0) = 1 := by
  unfold jX7_isShaft
  exact (ibs (Or.inl rfl) (ibs (Or.inl rfl) (Or.inr rfl)))
def jX7_isShaftPlace (a0 : Int32) : Int32 := (if a0 < 0 then (0 : Int32) else (if (4 : Int32) ≤ a0 then (0 : Int32) else (1 : Int32)))
set_option linter.constructorNameAsVariable false in
set_option maxHeartbeats 8000000 in
set_option maxRecDepth 100000 in
theorem qX7_isShaftPlace (l : Launch) (a0 : Int32) : Met l yX7_isShaftPlace wsX7_isShaftPlace ({ frames := 0, cells := 0, slots := 0, locals := 0 }) (fun v _ => v = ([.int a0] : List Value).toArray) (vp_Si (fun r => r = jX7_isShaftPlace a0)) 0 0 (fun _ => False) := by
  refine Met.ofW (cc := cX7_isShaftPlace) (maxL := 1) (ret := some .boolean) (by decide) rfl ?_
  intro p e s m args below meth c s₁ B hml hv
  subst hv
  have hx := B.exec
  have hb := B.bytes
  have hr := B.returns
  have hts := atoms_spec (ws := wsX7_isShaftPlace) B.pre
  have hown : s.vm.findClass RX7 = some m.cls := findClass_of_methodNamed B.named
  have hlocks := B.notSynchronized
  obtain ⟨JR, hE⟩ : ∃ q, jX7_isShaftPlace a0 = q := ⟨_, rfl⟩
  have hJ := hE
  rw [jX7_isShaftPlace] at hJ
  have hl := lv_entry ([.int a0]) (n := 1) (Nat.le_of_ble_eq_true rfl)
  rw [lg_entry_eq]
  generalize (lg_sl ([.int a0]) ++ List.replicate (1 - (lg_sl ([.int a0])).length) Slot.unset).toArray = ls at hl ⊢
  have hl : lv_has ls 1 [(0, .int a0)] := hl
  refine lv_iload_n hx hb dX7_isShaftPlace_0 rfl (lv_at hl 0 rfl) ?_
  refine lv_if_lt (tgt := 13) hx hb dX7_isShaftPlace_1 (by decide) (fun c1 => ?_) (fun c1 => ?_)
  · skip
    rw [if_pos c1] at hJ
    refine lv_iconst (v := (0 : Int32)) hx hb dX7_isShaftPlace_13 (by decide) ?_
    exact W.zret hx hb hr rfl (fun t ht hW => ⟨_, rfl, hJ.trans hE.symm, ht⟩) (fun q h => absurd h List.not_mem_nil) dX7_isShaftPlace_14
  · skip
    rw [if_neg c1] at hJ
    refine lv_iload_n hx hb dX7_isShaftPlace_4 rfl (lv_at hl 0 rfl) ?_
    refine lv_iconst (v := (4 : Int32)) hx hb dX7_isShaftPlace_5 (by decide) ?_
    refine lv_icmp_ge (tgt := 13) hx hb dX7_isShaftPlace_6 (by decide) (fun c2 => ?_) (fun c2 => ?_)
    · skip
      rw [if_pos c2] at hJ
      refine lv_iconst (v := (0 : Int32)) hx hb dX7_isShaftPlace_13 (by decide) ?_
      exact W.zret hx hb hr rfl (fun t ht hW => ⟨_, rfl, hJ.trans hE.symm, ht⟩) (fun q h => absurd h List.not_mem_nil) dX7_isShaftPlace_14
    · skip
      rw [if_neg c2] at hJ
      refine lv_iconst (v := (1 : Int32)) hx hb dX7_isShaftPlace_9 (by decide) ?_
      refine lv_goto (tgt := 14) hx hb dX7_isShaftPlace_10 (by decide) ?_
      exact W.zret hx hb hr rfl (fun t ht hW => ⟨_, rfl, hJ.trans hE.symm, ht⟩) (fun q h => absurd h List.not_mem_nil) dX7_isShaftPlace_14
theorem bX7_isShaftPlace (a0 : Int32) : (jX7_isShaftPlace a0) = 0 ∨ (jX7_isShaftPlace a0) = 1 := by
  unfold jX7_isShaftPlace
  exact (ibs (Or.inl rfl) (ibs (Or.inl rfl) (Or.inr rfl)))
def jX7_isKind (a0 : Int32) : Int32 := (if a0 < 0 then (0 : Int32) else (if (3 : Int32) < a0 then (0 : Int32) else (1 : Int32)))
set_option linter.constructorNameAsVariable false in
set_option maxHeartbeats 8000000 in
set_option maxRecDepth 100000 in
theorem qX7_isKind (l : Launch) (a0 : Int32) : Met l yX7_isKind wsX7_isKind ({ frames := 0, cells := 0, slots := 0, locals := 0 }) (fun v _ => v = ([.int a0] : List Value).toArray) (vp_Si (fun r => r = jX7_isKind a0)) 0 0 (fun _ => False) := by
  refine Met.ofW (cc := cX7_isKind) (maxL := 1) (ret := some .boolean) (by decide) rfl ?_
  intro p e s m args below meth c s₁ B hml hv
  subst hv
  have hx := B.exec
  have hb := B.bytes
  have hr := B.returns
  have hts := atoms_spec (ws := wsX7_isKind) B.pre
  have hown : s.vm.findClass RX7 = some m.cls := findClass_of_methodNamed B.named
  have hlocks := B.notSynchronized
  obtain ⟨JR, hE⟩ : ∃ q, jX7_isKind a0 = q := ⟨_, rfl⟩
  have hJ := hE
  rw [jX7_isKind] at hJ
  have hl := lv_entry ([.int a0]) (n := 1) (Nat.le_of_ble_eq_true rfl)
  rw [lg_entry_eq]
  generalize (lg_sl ([.int a0]) ++ List.replicate (1 - (lg_sl ([.int a0])).length) Slot.unset).toArray = ls at hl ⊢
  have hl : lv_has ls 1 [(0, .int a0)] := hl
  refine lv_iload_n hx hb dX7_isKind_0 rfl (lv_at hl 0 rfl) ?_
  refine lv_if_lt (tgt := 13) hx hb dX7_isKind_1 (by decide) (fun c1 => ?_) (fun c1 => ?_)
  · skip
    rw [if_pos c1] at hJ
    refine lv_iconst (v := (0 : Int32)) hx hb dX7_isKind_13 (by decide) ?_
    exact W.zret hx hb hr rfl (fun t ht hW => ⟨_, rfl, hJ.trans hE.symm, ht⟩) (fun q h => absurd h List.not_mem_nil) dX7_isKind_14
  · skip
    rw [if_neg c1] at hJ
    refine lv_iload_n hx hb dX7_isKind_4 rfl (lv_at hl 0 rfl) ?_
    refine lv_iconst (v := (3 : Int32)) hx hb dX7_isKind_5 (by decide) ?_
    refine lv_icmp_gt (tgt := 13) hx hb dX7_isKind_6 (by decide) (fun c2 => ?_) (fun c2 => ?_)
    · skip
      rw [if_pos c2] at hJ
      refine lv_iconst (v := (0 : Int32)) hx hb dX7_isKind_13 (by decide) ?_
      exact W.zret hx hb hr rfl (fun t ht hW => ⟨_, rfl, hJ.trans hE.symm, ht⟩) (fun q h => absurd h List.not_mem_nil) dX7_isKind_14
    · skip
      rw [if_neg c2] at hJ
      refine lv_iconst (v := (1 : Int32)) hx hb dX7_isKind_9 (by decide) ?_
      refine lv_goto (tgt := 14) hx hb dX7_isKind_10 (by decide) ?_
      exact W.zret hx hb hr rfl (fun t ht hW => ⟨_, rfl, hJ.trans hE.symm, ht⟩) (fun q h => absurd h List.not_mem_nil) dX7_isKind_14
theorem bX7_isKind (a0 : Int32) : (jX7_isKind a0) = 0 ∨ (jX7_isKind a0) = 1 := by
  unfold jX7_isKind
  exact (ibs (Or.inl rfl) (ibs (Or.inl rfl) (Or.inr rfl)))
def jX7_isReal (a0 : Int32) : Int32 := (if a0 = (2 : Int32) then (1 : Int32) else (if a0 = (3 : Int32) then (1 : Int32) else (0 : Int32)))
set_option linter.constructorNameAsVariable false in
set_option maxHeartbeats 8000000 in
set_option maxRecDepth 100000 in
theorem qX7_isReal (l : Launch) (a0 : Int32) : Met l yX7_isReal wsX7_isReal ({ frames := 0, cells := 0, slots := 0, locals := 0 }) (fun v _ => v = ([.int a0] : List Value).toArray) (vp_Si (fun r => r = jX7_isReal a0)) 0 0 (fun _ => False) := by
  refine Met.ofW (cc := cX7_isReal) (maxL := 1) (ret := some .boolean) (by decide) rfl ?_
  intro p e s m args below meth c s₁ B hml hv
  subst hv
  have hx := B.exec
  have hb := B.bytes
  have hr := B.returns
  have hts := atoms_spec (ws := wsX7_isReal) B.pre
  have hown : s.vm.findClass RX7 = some m.cls := findClass_of_methodNamed B.named
  have hlocks := B.notSynchronized
  obtain ⟨JR, hE⟩ : ∃ q, jX7_isReal a0 = q := ⟨_, rfl⟩
  have hJ := hE
  rw [jX7_isReal] at hJ
  have hl := lv_entry ([.int a0]) (n := 1) (Nat.le_of_ble_eq_true rfl)
  rw [lg_entry_eq]
  generalize (lg_sl ([.int a0]) ++ List.replicate (1 - (lg_sl ([.int a0])).length) Slot.unset).toArray = ls at hl ⊢
  have hl : lv_has ls 1 [(0, .int a0)] := hl
  refine lv_iload_n hx hb dX7_isReal_0 rfl (lv_at hl 0 rfl) ?_
  refine lv_iconst (v := (2 : Int32)) hx hb dX7_isReal_1 (by decide) ?_
  refine lv_icmp_eq (tgt := 10) hx hb dX7_isReal_2 (by decide) (fun c1 => ?_) (fun c1 => ?_)
  · skip
    rw [if_pos c1] at hJ
    refine lv_iconst (v := (1 : Int32)) hx hb dX7_isReal_10 (by decide) ?_
    refine lv_goto (tgt := 15) hx hb dX7_isReal_11 (by decide) ?_
    exact W.zret hx hb hr rfl (fun t ht hW => ⟨_, rfl, hJ.trans hE.symm, ht⟩) (fun q h => absurd h List.not_mem_nil) dX7_isReal_15
  · skip
    rw [if_neg c1] at hJ
    refine lv_iload_n hx hb dX7_isReal_5 rfl (lv_at hl 0 rfl) ?_
    refine lv_iconst (v := (3 : Int32)) hx hb dX7_isReal_6 (by decide) ?_
    refine lv_icmp_ne (tgt := 14) hx hb dX7_isReal_7 (by decide) (fun c2 => ?_) (fun c2 => ?_)
    · skip
      rw [if_neg c2] at hJ
      refine lv_iconst (v := (0 : Int32)) hx hb dX7_isReal_14 (by decide) ?_
      exact W.zret hx hb hr rfl (fun t ht hW => ⟨_, rfl, hJ.trans hE.symm, ht⟩) (fun q h => absurd h List.not_mem_nil) dX7_isReal_15
    · skip
      rw [if_pos c2] at hJ
      refine lv_iconst (v := (1 : Int32)) hx hb dX7_isReal_10 (by decide) ?_
      refine lv_goto (tgt := 15) hx hb dX7_isReal_11 (by decide) ?_
      exact W.zret hx hb hr rfl (fun t ht hW => ⟨_, rfl, hJ.trans hE.symm, ht⟩) (fun q h => absurd h List.not_mem_nil) dX7_isReal_15
theorem bX7_isReal (a0 : Int32) : (jX7_isReal a0) = 0 ∨ (jX7_isReal a0) = 1 := by
  unfold jX7_isReal
  exact (ibs (Or.inr rfl) (ibs (Or.inr rfl) (Or.inl rfl)))
def jX7_castReal_y4 (a0 : Int32) (a1 : Int32) (a2 : Int64) (y2 : Int32) (y4 : Int64) : Int64 := (if a1 = (1 : Int32) then y4 else (if (if y4 < (2147483647 : Int64) then y4 else (2147483647 : Int64)) < (-2147483648 : Int64) then (-2147483648 : Int64) else (if y4 < (2147483647 : Int64) then y4 else (2147483647 : Int64))))
def jX7_castReal_y2 (a0 : Int32) (a1 : Int32) (a2 : Int64) (y2 : Int32) : Int64 := (jX7_castReal_y4 a0 a1 a2 y2 (jX4_cutToLong y2 a2))
def jX7_castReal_y8 (a0 : Int32) (a1 : Int32) (a2 : Int64) (y6 : Int32) (y8 : Int32) : Int64 := (jX4_ofReal y6 y8 a2)
def jX7_castReal_y6 (a0 : Int32) (a1 : Int32) (a2 : Int64) (y6 : Int32) : Int64 := (jX7_castReal_y8 a0 a1 a2 y6 (if a1 = (3 : Int32) then (1 : Int32) else (0 : Int32)))
def jX7_castReal (a0 : Int32) (a1 : Int32) (a2 : Int64) : Int64 := (if (jX7_isReal a1) = 0 then (jX7_castReal_y2 a0 a1 a2 (if a0 = (3 : Int32) then (1 : Int32) else (0 : Int32))) else (jX7_castReal_y6 a0 a1 a2 (if a0 = (3 : Int32) then (1 : Int32) else (0 : Int32))))
set_option linter.constructorNameAsVariable false in
set_option maxHeartbeats 8000000 in
set_option maxRecDepth 100000 in
theorem qX7_castReal (l : Launch) (a0 : Int32) (a1 : Int32) (a2 : Int64) : Met l yX7_castReal wsX7_castReal ({ frames := 5, cells := 0, slots := 0, locals := 119 }) (fun v _ => v = ([.int a0, .int a1, .long a2] : List Value).toArray) (vp_Sl (fun r => r = jX7_castReal a0 a1 a2)) 0 0 (fun _ => False) := by
  refine Met.ofW (cc := cX7_castReal) (maxL := 6) (ret := some .long) (by decide) rfl ?_
  intro p e s m args below meth c s₁ B hml hv
  subst hv
  have hx := B.exec
  have hb := B.bytes
  have hr := B.returns
  have hts := atoms_spec (ws := wsX7_castReal) B.pre
  have hown : s.vm.findClass RX7 = some m.cls := findClass_of_methodNamed B.named
  have hlocks := B.notSynchronized
  obtain ⟨JR, hE⟩ : ∃ q, jX7_castReal a0 a1 a2 = q := ⟨_, rfl⟩
  have hJ := hE
  rw [jX7_castReal] at hJ
  have hl := lv_entry ([.int a0, .int a1, .long a2]) (n := 6) (Nat.le_of_ble_eq_true rfl)
  rw [lg_entry_eq]
  generalize (lg_sl ([.int a0, .int a1, .long a2]) ++ List.replicate (6 - (lg_sl ([.int a0, .int a1, .long a2])).length) Slot.unset).toArray = ls at hl ⊢
  have hl : lv_has ls 6 [(0, .int a0), (1, .int a1), (2, .long a2)] := hl
  refine lv_iload_n hx hb dX7_castReal_0 rfl (lv_at hl 1 rfl) ?_
  refine vp_callSi (W.runS (As := [.int a1]) (rest := []) ⟨hx, hb, hml, hown, hts⟩ (qX7_isReal l a1) (va_cwS 1 hts gX7_castReal_X7_isReal rfl rfl rfl (by decide +kernel) ⟨Nat.le_of_ble_eq_true rfl, Nat.le_of_ble_eq_true rfl⟩) ⟨fun _ _ _ _ q => q, fun U hU hW => rfl⟩ rfl rfl hl.1 rfl (lv_room (Nat.le_of_ble_eq_true rfl)) dX7_castReal_1 ⟨Nat.le_of_ble_eq_true rfl, Nat.le_of_ble_eq_true rfl⟩) (fun r hq9 => ?_)
  rw [hq9]
  refine lv_if_eq (tgt := 32) hx hb dX7_castReal_4 (by decide) (fun c1 => ?_) (fun c1 => ?_)
  · skip
    rw [if_pos c1] at hJ
    refine lv_iload_n hx hb dX7_castReal_32 rfl (lv_at hl 0 rfl) ?_
    refine lv_iconst (v := (3 : Int32)) hx hb dX7_castReal_33 (by decide) ?_
    refine jn_i (J := 42) (ls := ls) (v := (if a0 = (3 : Int32) then (1 : Int32) else (0 : Int32))) (rest := []) ?_ (fun y2 ey2 => ?_)
    · intro hj
      refine lv_icmp_ne (tgt := 41) hx hb dX7_castReal_34 (by decide) (fun c3 => ?_) (fun c3 => ?_)
      · skip
        rw [if_neg c3] at hj
        refine lv_iconst (v := (0 : Int32)) hx hb dX7_castReal_41 (by decide) ?_
        exact hj
      · skip
        rw [if_pos c3] at hj
        refine lv_iconst (v := (1 : Int32)) hx hb dX7_castReal_37 (by decide) ?_
        refine lv_goto (tgt := 42) hx hb dX7_castReal_38 (by decide) ?_
        exact hj
    rw [← ey2] at hJ
    rw [jX7_castReal_y2] at hJ
    refine lv_lload_n hx hb dX7_castReal_42 rfl (lv_at hl 2 rfl) ?_
    refine vp_callSl (W.runS (As := [.int y2, .long a2]) (rest := []) ⟨hx, hb, hml, hown, hts⟩ (qX4_cutToLong l y2 a2) (va_cwS 2 hts gX7_castReal_X4_cutToLong rfl rfl rfl (by decide +kernel) ⟨Nat.le_of_ble_eq_true rfl, Nat.le_of_ble_eq_true rfl⟩) ⟨fun _ _ _ _ q => q, fun U hU hW => rfl⟩ rfl rfl hl.1 rfl (lv_room (Nat.le_of_ble_eq_true rfl)) dX7_castReal_43 ⟨Nat.le_of_ble_eq_true rfl, Nat.le_of_ble_eq_true rfl⟩) (fun r hq9 => ?_)
    rw [hq9]
    refine lv_topl (fun y4 ey4 => ?_)
    rw [← ey4] at hJ
    rw [jX7_castReal_y4] at hJ
    refine lv_lstore (lv' := [(4, .long y4), (0, .int a0), (1, .int a1), (2, .long a2)]) hx hb dX7_castReal_46 hl (by decide) rfl (fun ls hl => ?_)
    refine lv_iload_n hx hb dX7_castReal_48 rfl (lv_at hl 2 rfl) ?_
    refine lv_iconst (v := (1 : Int32)) hx hb dX7_castReal_49 (by decide) ?_
    refine lv_icmp_ne (tgt := 56) hx hb dX7_castReal_50 (by decide) (fun c5 => ?_) (fun c5 => ?_)
    · skip
      rw [if_neg c5] at hJ
      refine lv_ldc2 (v := (-2147483648 : Int64)) hx hb hown (hts (.constantLong RX7 190 (-2147483648)) (by decide +kernel)) dX7_castReal_56 ?_
      refine lv_ldc2 (v := (2147483647 : Int64)) hx hb hown (hts (.constantLong RX7 192 (2147483647)) (by decide +kernel)) dX7_castReal_59 ?_
      refine lv_lload hx hb dX7_castReal_62 (lv_at hl 0 rfl) ?_
      refine va_mmin_long hx hb (hml.trans hl.1.symm) hown (hts (.methodLink RX7 194 Lib.MathLoose.min_long.x) (by decide +kernel)) (hts (.static Lib.MathLoose.min_long.x) (by decide +kernel)) (hts (.initialized "java/lang/Math") (by decide +kernel)) (hts (.code Lib.MathLoose.min_long.x Lib.MathLoose.min_long.code 4 (some .long)) (by decide +kernel)) (Nat.le_of_ble_eq_true rfl) (Nat.le_of_ble_eq_true rfl) (Nat.zero_le _) (Nat.zero_le _) dX7_castReal_64 ?_
      refine va_mmax_long hx hb (hml.trans hl.1.symm) hown (hts (.methodLink RX7 200 Lib.MathLoose.max_long.x) (by decide +kernel)) (hts (.static Lib.MathLoose.max_long.x) (by decide +kernel)) (hts (.initialized "java/lang/Math") (by decide +kernel)) (hts (.code Lib.MathLoose.max_long.x Lib.MathLoose.max_long.code 4 (some .long)) (by decide +kernel)) (Nat.le_of_ble_eq_true rfl) (Nat.le_of_ble_eq_true rfl) (Nat.zero_le _) (Nat.zero_le _) dX7_castReal_67 ?_
      exact W.lret hx hb hr (fun t ht hW => ⟨_, rfl, hJ.trans hE.symm, ht⟩) (fun q h => absurd h List.not_mem_nil) dX7_castReal_70
    · skip
      rw [if_pos c5] at hJ
      refine lv_lload hx hb dX7_castReal_53 (lv_at hl 0 rfl) ?_
      exact W.lret hx hb hr (fun t ht hW => ⟨_, rfl, hJ.trans hE.symm, ht⟩) (fun q h => absurd h List.not_mem_nil) dX7_castReal_55
  · skip
    rw [if_neg c1] at hJ
    refine lv_iload_n hx hb dX7_castReal_7 rfl (lv_at hl 0 rfl) ?_
    refine lv_iconst (v := (3 : Int32)) hx hb dX7_castReal_8 (by decide) ?_
    refine jn_i (J := 17) (ls := ls) (v := (if a0 = (3 : Int32) then (1 : Int32) else (0 : Int32))) (rest := []) ?_ (fun y6 ey6 => ?_)
    · intro hj
      refine lv_icmp_ne (tgt := 16) hx hb dX7_castReal_9 (by decide) (fun c7 => ?_) (fun c7 => ?_)
      · skip
        rw [if_neg c7] at hj
        refine lv_iconst (v := (0 : Int32)) hx hb dX7_castReal_16 (by decide) ?_
        exact hj
      · skip
        rw [if_pos c7] at hj
        refine lv_iconst (v := (1 : Int32)) hx hb dX7_castReal_12 (by decide) ?_
        refine lv_goto (tgt := 17) hx hb dX7_castReal_13 (by decide) ?_
        exact hj
    rw [← ey6] at hJ
    rw [jX7_castReal_y6] at hJ
    refine lv_iload_n hx hb dX7_castReal_17 rfl (lv_at hl 1 rfl) ?_
    refine lv_iconst (v := (3 : Int32)) hx hb dX7_castReal_18 (by decide) ?_
    refine jn_i (J := 27) (ls := ls) (v := (if a1 = (3 : Int32) then (1 : Int32) else (0 : Int32))) (rest := [.int y6]) ?_ (fun y8 ey8 => ?_)
    · intro hj
      refine lv_icmp_ne (tgt := 26) hx hb dX7_castReal_19 (by decide) (fun c9 => ?_) (fun c9 => ?_)
      · skip
        rw [if_neg c9] at hj
        refine lv_iconst (v := (0 : Int32)) hx hb dX7_castReal_26 (by decide) ?_
        exact hj
      · skip
        rw [if_pos c9] at hj
        refine lv_iconst (v := (1 : Int32)) hx hb dX7_castReal_22 (by decide) ?_
        refine lv_goto (tgt := 27) hx hb dX7_castReal_23 (by decide) ?_
        exact hj
    rw [← ey8] at hJ
    rw [jX7_castReal_y8] at hJ
    refine lv_lload_n hx hb dX7_castReal_27 rfl (lv_at hl 2 rfl) ?_
    refine vp_callSl (W.runS (As := [.int y6, .int y8, .long a2]) (rest := []) ⟨hx, hb, hml, hown, hts⟩ (qX4_ofReal l y6 y8 a2) (va_cwS 3 hts gX7_castReal_X4_ofReal rfl rfl rfl (by decide +kernel) ⟨Nat.le_of_ble_eq_true rfl, Nat.le_of_ble_eq_true rfl⟩) ⟨fun _ _ _ _ q => q, fun U hU hW => rfl⟩ rfl rfl hl.1 rfl (lv_room (Nat.le_of_ble_eq_true rfl)) dX7_castReal_28 ⟨Nat.le_of_ble_eq_true rfl, Nat.le_of_ble_eq_true rfl⟩) (fun r hq9 => ?_)
    rw [hq9]
    exact W.lret hx hb hr (fun t ht hW => ⟨_, rfl, hJ.trans hE.symm, ht⟩) (fun q h => absurd h List.not_mem_nil) dX7_castReal_31
def jX7_castWhole_y3 (a0 : Int32) (a1 : Int64) (y3 : Int32) : Int64 := (jX4_ofLong y3 a1)
def jX7_castWhole (a0 : Int32) (a1 : Int64) : Int64 := (if (jX7_isReal a0) = 0 then (if a0 = 0 then ((a1.toInt32).toInt64) else a1) else (jX7_castWhole_y3 a0 a1 (if a0 = (3 : Int32) then (1 : Int32) else (0 : Int32))))
set_option linter.constructorNameAsVariable false in
set_option maxHeartbeats 8000000 in
set_option maxRecDepth 100000 in
theorem qX7_castWhole (l : Launch) (a0 : Int32) (a1 : Int64) : Met l yX7_castWhole wsX7_castWhole ({ frames := 5, cells := 0, slots := 0, locals := 118 }) (fun v _ => v = ([.int a0, .long a1] : List Value).toArray) (vp_Sl (fun r => r = jX7_castWhole a0 a1)) 0 0 (fun _ => False) := by
  refine Met.ofW (cc := cX7_castWhole) (maxL := 3) (ret := some .long) (by decide) rfl ?_
  intro p e s m args below meth c s₁ B hml hv
  subst hv
  have hx := B.exec
  have hb := B.bytes
  have hr := B.returns
  have hts := atoms_spec (ws := wsX7_castWhole) B.pre
  have hown : s.vm.findClass RX7 = some m.cls := findClass_of_methodNamed B.named
  have hlocks := B.notSynchronized
  obtain ⟨JR, hE⟩ : ∃ q, jX7_castWhole a0 a1 = q := ⟨_, rfl⟩
  have hJ := hE
  rw [jX7_castWhole] at hJ
  have hl := lv_entry ([.int a0, .long a1]) (n := 3) (Nat.le_of_ble_eq_true rfl)
  rw [lg_entry_eq]
  generalize (lg_sl ([.int a0, .long a1]) ++ List.replicate (3 - (lg_sl ([.int a0, .long a1])).length) Slot.unset).toArray = ls at hl ⊢
  have hl : lv_has ls 3 [(0, .int a0), (1, .long a1)] := hl
  refine lv_iload_n hx hb dX7_castWhole_0 rfl (lv_at hl 0 rfl) ?_
  refine vp_callSi (W.runS (As := [.int a0]) (rest := []) ⟨hx, hb, hml, hown, hts⟩ (qX7_isReal l a0) (va_cwS 1 hts gX7_castWhole_X7_isReal rfl rfl rfl (by decide +kernel) ⟨Nat.le_of_ble_eq_true rfl, Nat.le_of_ble_eq_true rfl⟩) ⟨fun _ _ _ _ q => q, fun U hU hW => rfl⟩ rfl rfl hl.1 rfl (lv_room (Nat.le_of_ble_eq_true rfl)) dX7_castWhole_1 ⟨Nat.le_of_ble_eq_true rfl, Nat.le_of_ble_eq_true rfl⟩) (fun r hq9 => ?_)
  rw [hq9]
  refine lv_if_eq (tgt := 22) hx hb dX7_castWhole_4 (by decide) (fun c1 => ?_) (fun c1 => ?_)
  · skip
    rw [if_pos c1] at hJ
    refine lv_iload_n hx hb dX7_castWhole_22 rfl (lv_at hl 0 rfl) ?_
    refine lv_if_ne (tgt := 32) hx hb dX7_castWhole_23 (by decide) (fun c2 => ?_) (fun c2 => ?_)
    · skip
      rw [if_neg c2] at hJ
      refine lv_lload_n hx hb dX7_castWhole_32 rfl (lv_at hl 1 rfl) ?_
      exact W.lret hx hb hr (fun t ht hW => ⟨_, rfl, hJ.trans hE.symm, ht⟩) (fun q h => absurd h List.not_mem_nil) dX7_castWhole_33
    · skip
      rw [if_pos c2] at hJ
      refine lv_lload_n hx hb dX7_castWhole_26 rfl (lv_at hl 1 rfl) ?_
      refine lv_l2i (v := a1.toInt32) hx hb dX7_castWhole_27 rfl ?_
      refine lv_i2l (v := (a1.toInt32).toInt64) hx hb dX7_castWhole_28 rfl ?_
      refine lv_goto (tgt := 33) hx hb dX7_castWhole_29 (by decide) ?_
      exact W.lret hx hb hr (fun t ht hW => ⟨_, rfl, hJ.trans hE.symm, ht⟩) (fun q h => absurd h List.not_mem_nil) dX7_castWhole_33
  · skip
    rw [if_neg c1] at hJ
    refine lv_iload_n hx hb dX7_castWhole_7 rfl (lv_at hl 0 rfl) ?_
    refine lv_iconst (v := (3 : Int32)) hx hb dX7_castWhole_8 (by decide) ?_
    refine jn_i (J := 17) (ls := ls) (v := (if a0 = (3 : Int32) then (1 : Int32) else (0 : Int32))) (rest := []) ?_ (fun y3 ey3 => ?_)
    · intro hj
      refine lv_icmp_ne (tgt := 16) hx hb dX7_castWhole_9 (by decide) (fun c4 => ?_) (fun c4 => ?_)
      · skip
        rw [if_neg c4] at hj
        refine lv_iconst (v := (0 : Int32)) hx hb dX7_castWhole_16 (by decide) ?_
        exact hj
      · skip
        rw [if_pos c4] at hj
        refine lv_iconst (v := (1 : Int32)) hx hb dX7_castWhole_12 (by decide) ?_
        refine lv_goto (tgt := 17) hx hb dX7_castWhole_13 (by decide) ?_
        exact hj
    rw [← ey3] at hJ
    rw [jX7_castWhole_y3] at hJ
    refine lv_lload_n hx hb dX7_castWhole_17 rfl (lv_at hl 1 rfl) ?_
    refine vp_callSl (W.runS (As := [.int y3, .long a1]) (rest := []) ⟨hx, hb, hml, hown, hts⟩ (qX4_ofLong l y3 a1) (va_cwS 2 hts gX7_castWhole_X4_ofLong rfl rfl rfl (by decide +kernel) ⟨Nat.le_of_ble_eq_true rfl, Nat.le_of_ble_eq_true rfl⟩) ⟨fun _ _ _ _ q => q, fun U hU hW => rfl⟩ rfl rfl hl.1 rfl (lv_room (Nat.le_of_ble_eq_true rfl)) dX7_castWhole_18 ⟨Nat.le_of_ble_eq_true rfl, Nat.le_of_ble_eq_true rfl⟩) (fun r hq9 => ?_)
    rw [hq9]
    exact W.lret hx hb hr (fun t ht hW => ⟨_, rfl, hJ.trans hE.symm, ht⟩) (fun q h => absurd h List.not_mem_nil) dX7_castWhole_21
def jX5_isMissing (o : Os) (i : Nat) : Int32 := (if (c_rS o i) = (-1 : Int32) then (1 : Int32) else (0 : Int32))
def sX5_isMissing (o : Os) (i : Nat) : Prop := True ∧ (i < 16 ∧ (if (c_rS o i) = (-1 : Int32) then True else True))
set_option linter.constructorNameAsVariable false in
set_option maxHeartbeats 8000000 in
set_option maxRecDepth 100000 in
theorem qX5_isMissing (l : Launch) (dC : Nat → ClassId) (dI : Nat → Nat → Nat) (cy : Nat → ClassId) (x : Nat) (ad : Nat → Nat) (sz : Nat) (o : Os) (i : Nat) (hV : sX5_isMissing o i) : Met l yX5_isMissing wsX5_isMissing ({ frames := 0, cells := 0, slots := 0, locals := 0 }) (va_Pc [.ref (ad (300 + i))] (wI (dC, dI) (tyA cy) (WX cy x ad o) sz)) (vp_Si (fun r => r = jX5_isMissing o i)) 0 0 (fun _ => False) := by
  refine Met.ofW (cc := cX5_isMissing) (maxL := 1) (ret := some .boolean) (by decide) rfl ?_
  intro p e s m args below meth c s₁ B hml hv
  obtain ⟨rfl, hsz, hP, hK, hD0, hk⟩ := hv
  have hx := B.exec
  have hb := B.bytes
  have hr := B.returns
  have hts := atoms_spec (ws := wsX5_isMissing) B.pre
  have hown : s.vm.findClass RX5 = some m.cls := findClass_of_methodNamed B.named
  have hlocks := B.notSynchronized
  subst hsz
  have hD := hD0
  obtain ⟨H, hHe⟩ : ∃ H, s.heap = H := ⟨_, rfl⟩
  have hP : va_P (dC, dI) vwCl (WX cy x ad o) H := by rw [← hHe]; exact hP
  rw [w_heap hHe]
  have hi_wsX50 : ∀ w ∈ wsX50, w ∈ wsX5_isMissing := fun _ h => List.mem_cons_of_mem _ (List.mem_append_right _ h)
  obtain ⟨JR, hE⟩ : ∃ q, jX5_isMissing o i = q := ⟨_, rfl⟩
  have hJ := hE
  rw [jX5_isMissing] at hJ
  rw [sX5_isMissing] at hV
  have hV := hV.2
  have hl := lv_entry ([.ref (ad (300 + i))]) (n := 1) (Nat.le_of_ble_eq_true rfl)
  rw [lg_entry_eq]
  generalize (lg_sl ([.ref (ad (300 + i))]) ++ List.replicate (1 - (lg_sl ([.ref (ad (300 + i))])).length) Slot.unset).toArray = ls at hl ⊢
  have hl : lv_has ls 1 [(0, .ref (ad (300 + i)))] := hl
  refine lv_aload_n hx hb dX5_isMissing_0 rfl (lv_at hl 0 rfl) ?_
  obtain ⟨hk1, hV⟩ := hV
  refine va_get (D := (dC, dI)) (ci := 3) (v := .int (c_rS o i)) (C := RX5) (T := TX5) (N := 2) (fs := (cx_row ad o i)) hx hb hts hi_wsX50 hown hK hP (7 + (c_nd o + (c_nv o + i))) (wx_row (o := o) hk1) rfl 1 (by decide) (hts (.fieldLink RX5 15 "OrreryDials$Row" "size" "I") (by decide +kernel)) (fun _ h9 => h9) rfl dX5_isMissing_1 ?_
  refine lv_iconst (v := (-1 : Int32)) hx hb dX5_isMissing_4 (by decide) ?_
  refine lv_icmp_ne (tgt := 12) hx hb dX5_isMissing_5 (by decide) (fun c2 => ?_) (fun c2 => ?_)
  · skip
    rw [if_neg c2] at hJ
    rw [if_neg c2] at hV
    refine lv_iconst (v := (0 : Int32)) hx hb dX5_isMissing_12 (by decide) ?_
    exact W.zret hx hb hr rfl (fun t ht hW => ⟨_, rfl, hJ.trans hE.symm, ht.trans hHe.symm⟩) (fun q h => absurd h List.not_mem_nil) dX5_isMissing_13
  · skip
    rw [if_pos c2] at hJ
    rw [if_pos c2] at hV
    refine lv_iconst (v := (1 : Int32)) hx hb dX5_isMissing_8 (by decide) ?_
    refine lv_goto (tgt := 13) hx hb dX5_isMissing_9 (by decide) ?_
    exact W.zret hx hb hr rfl (fun t ht hW => ⟨_, rfl, hJ.trans hE.symm, ht.trans hHe.symm⟩) (fun q h => absurd h List.not_mem_nil) dX5_isMissing_13
theorem bX5_isMissing (o : Os) (i : Nat) : (jX5_isMissing o i) = 0 ∨ (jX5_isMissing o i) = 1 := by
  unfold jX5_isMissing
  exact (ibs (Or.inr rfl) (Or.inl rfl))
def jX5_failureAt (o : Os) (i : Nat) (a1 : Int32) : Int32 := (if (jX5_isMissing o i) = 0 then (if a1 < 0 then (-12 : Int32) else (if (c_rS o i) ≤ a1 then (-12 : Int32) else (0 : Int32))) else (-11 : Int32))
def sX5_failureAt (o : Os) (i : Nat) (a1 : Int32) : Prop := True ∧ (sX5_isMissing o i ∧ (i < 16 ∧ (if (jX5_isMissing o i) = 0 then (if a1 < 0 then True else (if (c_rS o i) ≤ a1 then True else True)) else True)))
set_option linter.constructorNameAsVariable false in
set_option maxHeartbeats 8000000 in
set_option maxRecDepth 100000 in
theorem qX5_failureAt (l : Launch) (dC : Nat → ClassId) (dI : Nat → Nat → Nat) (cy : Nat → ClassId) (x : Nat) (ad : Nat → Nat) (sz : Nat) (o : Os) (i : Nat) (a1 : Int32) (hV : sX5_failureAt o i a1) : Met l yX5_failureAt wsX5_failureAt ({ frames := 1, cells := 0, slots := 0, locals := 20 }) (va_Pc [.ref (ad (300 + i)), .int a1] (wI (dC, dI) (tyA cy) (WX cy x ad o) sz)) (vp_Si (fun r => r = jX5_failureAt o i a1)) 0 0 (fun _ => False) := by
  refine Met.ofW (cc := cX5_failureAt) (maxL := 2) (ret := some .int) (by decide) rfl ?_
  intro p e s m args below meth c s₁ B hml hv
  obtain ⟨rfl, hsz, hP, hK, hD0, hk⟩ := hv
  have hx := B.exec
  have hb := B.bytes
  have hr := B.returns
  have hts := atoms_spec (ws := wsX5_failureAt) B.pre
  have hown : s.vm.findClass RX5 = some m.cls := findClass_of_methodNamed B.named
  have hlocks := B.notSynchronized
  subst hsz
  have hD := hD0
  obtain ⟨H, hHe⟩ : ∃ H, s.heap = H := ⟨_, rfl⟩
  have hP : va_P (dC, dI) vwCl (WX cy x ad o) H := by rw [← hHe]; exact hP
  rw [w_heap hHe]
  have hi_wsX50 : ∀ w ∈ wsX50, w ∈ wsX5_failureAt := fun _ h => List.mem_cons_of_mem _ (List.mem_append_right _ h)
  obtain ⟨JR, hE⟩ : ∃ q, jX5_failureAt o i a1 = q := ⟨_, rfl⟩
  have hJ := hE
  rw [jX5_failureAt] at hJ
  rw [sX5_failureAt] at hV
  have hV := hV.2
  have hl := lv_entry ([.ref (ad (300 + i)), .int a1]) (n := 2) (Nat.le_of_ble_eq_true rfl)
  rw [lg_entry_eq]
  generalize (lg_sl ([.ref (ad (300 + i)), .int a1]) ++ List.replicate (2 - (lg_sl ([.ref (ad (300 + i)), .int a1])).length) Slot.unset).toArray = ls at hl ⊢
  have hl : lv_has ls 2 [(0, .ref (ad (300 + i))), (1, .int a1)] := hl
  refine lv_aload_n hx hb dX5_failureAt_0 rfl (lv_at hl 0 rfl) ?_
  obtain ⟨hk1, hV⟩ := hV
  obtain ⟨hk2, hV⟩ := hV
  refine vp_callSi (W.runV (As := []) (rest := []) ⟨hx, hb, hml, hown, hts⟩ (qX5_isMissing l dC dI cy x ad H.size o i hk1) (cwV 0 hts gX5_failureAt_X5_isMissing rfl rfl rfl (by decide +kernel) ⟨Nat.le_of_ble_eq_true rfl, Nat.le_of_ble_eq_true rfl⟩) (pV hK hP hD hk (q0 := (7 + (c_nd o + (c_nv o + i)))) (wx_row (o := o) hk2) rfl) rfl rfl hl.1 rfl (lv_room (Nat.le_of_ble_eq_true rfl)) dX5_failureAt_1 ⟨Nat.le_of_ble_eq_true rfl, Nat.le_of_ble_eq_true rfl⟩) (fun r hq9 => ?_)
  rw [hq9]
  refine lv_if_eq (tgt := 10) hx hb dX5_failureAt_4 (by decide) (fun c3 => ?_) (fun c3 => ?_)
  · skip
    rw [if_pos c3] at hJ
    rw [if_pos c3] at hV
    refine lv_iload_n hx hb dX5_failureAt_10 rfl (lv_at hl 1 rfl) ?_
    refine lv_if_lt (tgt := 26) hx hb dX5_failureAt_11 (by decide) (fun c4 => ?_) (fun c4 => ?_)
    · skip
      rw [if_pos c4] at hJ
      rw [if_pos c4] at hV
      refine lv_bipush (v := (-12 : Int32)) hx hb dX5_failureAt_26 (by decide) ?_
      exact W.iret hx hb hr (fun t ht hW => ⟨_, rfl, hJ.trans hE.symm, ht.trans hHe.symm⟩) (fun q h => absurd h List.not_mem_nil) dX5_failureAt_28
    · skip
      rw [if_neg c4] at hJ
      rw [if_neg c4] at hV
      refine lv_iload_n hx hb dX5_failureAt_14 rfl (lv_at hl 1 rfl) ?_
      refine lv_aload_n hx hb dX5_failureAt_15 rfl (lv_at hl 0 rfl) ?_
      refine va_get (D := (dC, dI)) (ci := 3) (v := .int (c_rS o i)) (C := RX5) (T := TX5) (N := 2) (fs := (cx_row ad o i)) hx hb hts hi_wsX50 hown hK hP (7 + (c_nd o + (c_nv o + i))) (wx_row (o := o) hk2) rfl 1 (by decide) (hts (.fieldLink RX5 15 "OrreryDials$Row" "size" "I") (by decide +kernel)) (fun _ h9 => h9) rfl dX5_failureAt_16 ?_
      refine lv_icmp_ge (tgt := 26) hx hb dX5_failureAt_19 (by decide) (fun c5 => ?_) (fun c5 => ?_)
      · skip
        rw [if_pos c5] at hJ
        rw [if_pos c5] at hV
        refine lv_bipush (v := (-12 : Int32)) hx hb dX5_failureAt_26 (by decide) ?_
        exact W.iret hx hb hr (fun t ht hW => ⟨_, rfl, hJ.trans hE.symm, ht.trans hHe.symm⟩) (fun q h => absurd h List.not_mem_nil) dX5_failureAt_28
      · skip
        rw [if_neg c5] at hJ
        rw [if_neg c5] at hV
        refine lv_iconst (v := (0 : Int32)) hx hb dX5_failureAt_22 (by decide) ?_
        refine lv_goto (tgt := 28) hx hb dX5_failureAt_23 (by decide) ?_
        exact W.iret hx hb hr (fun t ht hW => ⟨_, rfl, hJ.trans hE.symm, ht.trans hHe.symm⟩) (fun q h => absurd h List.not_mem_nil) dX5_failureAt_28
  · skip
    rw [if_neg c3] at hJ
    rw [if_neg c3] at hV
    refine lv_bipush (v := (-11 : Int32)) hx hb dX5_failureAt_7 (by decide) ?_
    exact W.iret hx hb hr (fun t ht hW => ⟨_, rfl, hJ.trans hE.symm, ht.trans hHe.symm⟩) (fun q h => absurd h List.not_mem_nil) dX5_failureAt_9
