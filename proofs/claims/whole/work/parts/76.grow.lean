/-! dial and drive -/
def gD (o : Os) (f : Int32) (r : Int64) : Os := (c_nd o + 1, va_up (c_dF o) (c_nd o) f, va_up (c_dR o) (c_nd o) r, va_up (c_dP o) (c_nd o) 0, va_up (c_dL o) (c_nd o) 0, c_nv o, c_vS o, c_vP o, c_vC o, c_vG o, c_sl o, c_sh o, c_rS o, c_rP o, c_se o, c_fl o, c_cn o)
def gV (o : Os) (s : Nat) (v : Int64) : Os := (c_nd o, c_dF o, c_dR o, c_dP o, c_dL o, c_nv o + 1, va_up (c_vS o) (c_nv o) s, va_up (c_vP o) (c_nv o) v, va_up (c_vC o) (c_nv o) 0, va_up (c_vG o) (c_nv o) 1, c_sl o, c_sh o, c_rS o, c_rP o, c_se o, c_fl o, c_cn o)
def jX7_dial (o : Os) (a1 : Int32) (a2 : Int64) : Int32 × Os := if jX4_isFit a1 (jX4_told a1 a2) = 0 then ((-102 : Int32), o) else if jX4_isZero a1 (jX4_told a1 a2) = 0 then (if nI (c_nd o) < (12 : Int32) then (nI (c_nd o), gD o a1 (jX4_told a1 a2)) else ((-103 : Int32), o)) else ((-102 : Int32), o)
def jX7_drive (o : Os) (a1 : Int32) (a2 : Int64) : Int32 × Os := if a1 < 0 then ((-102 : Int32), o) else if (2 : Int32) < a1 then ((-102 : Int32), o) else if jX4_isFit 1 a2 = 0 then ((-102 : Int32), o) else (if nI (c_nv o) < (20 : Int32) then (nI (c_nv o), gV o a1.toNatClampNeg a2) else ((-103 : Int32), o))
section GR
variable {cy : Nat → ClassId} {x : Nat} {ad : Nat → Nat} {o : Os}
theorem ls_mv {α : Type} (h d r : List α) (n : α) : (h ++ (d ++ r) ++ [n]).Perm (h ++ ((d ++ [n]) ++ r)) := by
  rw [List.append_assoc, List.append_assoc, List.append_assoc]
  exact List.Perm.append_left h (List.Perm.append_left d List.perm_append_comm)
theorem ls_mvE {α : Type} {L h d r : List α} {n : α} (e : L = h ++ (d ++ r) ++ [n]) : L.Perm (h ++ ((d ++ [n]) ++ r)) := by
  rw [e]
  exact ls_mv h d r n
theorem wx_g_dial (hn : c_nd o < 12) (q : Nat) (f : Int32) (r : Int64) : (((WX cy x ad o ++ ([(q, .inr (1, [.int f, .long r, .long 0, .long 0]))] : va_W) : va_W).set 1 (ad 1, .inl (cy 5, 12, .inr (.inr (.inr (.inr (va_up (cx_dr ad o) (c_nd o) (some q)))))))).set 0 (x, .inr (5, (cx_f ad o).set 1 (.int (nI (c_nd o + 1)))))).Perm (WX cy x (va_up ad (100 + c_nd o) q) (gD o f r)) := by
  have n1 : ∀ j, j ≠ 100 + c_nd o → va_up ad (100 + c_nd o) q j = ad j := fun j h => va_up_ne ad q h
  have d1 : cx_dr (va_up ad (100 + c_nd o) q) (gD o f r) = va_up (cx_dr ad o) (c_nd o) (some q) := by
    funext j
    show (if j < c_nd o + 1 then some (va_up ad (100 + c_nd o) q (100 + j)) else none) = (if j = c_nd o then some q else if j < c_nd o then some (ad (100 + j)) else none)
    by_cases h1 : j = c_nd o
    · rw [if_pos (by omega), if_pos h1, h1, va_up_self]
    · by_cases h2 : j < c_nd o
      · rw [if_pos (by omega), if_neg h1, if_pos h2, n1 _ (by omega)]
      · rw [if_neg (by omega), if_neg h1, if_neg h2]
  have d2 : cx_vr (va_up ad (100 + c_nd o) q) (gD o f r) = cx_vr ad o := by
    funext j
    show (if j < c_nv o then some (va_up ad (100 + c_nd o) q (200 + j)) else none) = (if j < c_nv o then some (ad (200 + j)) else none)
    rw [n1 _ (by omega)]
  have d3 : cx_sr (va_up ad (100 + c_nd o) q) (gD o f r) = cx_sr ad o := by
    funext j
    show (c_sl o j).map (fun k => va_up ad (100 + c_nd o) q (200 + k)) = (c_sl o j).map (fun k => ad (200 + k))
    congr 1
    funext k
    exact n1 _ (by omega)
  have d4 : cx_hr (va_up ad (100 + c_nd o) q) (gD o f r) = cx_hr ad o := by
    funext j
    show (c_sh o j).map (fun k => va_up ad (100 + c_nd o) q (200 + k)) = (c_sh o j).map (fun k => ad (200 + k))
    congr 1
    funext k
    exact n1 _ (by omega)
  have d5 : cx_rr (va_up ad (100 + c_nd o) q) = cx_rr ad := by
    funext j
    show some _ = some _
    rw [n1 _ (by omega)]
  have hh : cx_h cy x (va_up ad (100 + c_nd o) q) (gD o f r) = [(x, .inr (5, (cx_f ad o).set 1 (.int (nI (c_nd o + 1))))), (ad 1, .inl (cy 5, 12, .inr (.inr (.inr (.inr (va_up (cx_dr ad o) (c_nd o) (some q))))))), (ad 2, .inl (cy 6, 20, .inr (.inr (.inr (.inr (cx_vr ad o)))))), (ad 3, .inl (cy 6, 6, .inr (.inr (.inr (.inr (cx_sr ad o)))))), (ad 4, .inl (cy 6, 8, .inr (.inr (.inr (.inr (cx_hr ad o)))))), (ad 5, .inl (cy 7, 16, .inr (.inr (.inr (.inr (cx_rr ad)))))), (ad 6, .inl (cy 0, 5, .inl (c_cn o)))] := by
    unfold cx_h cx_f
    rw [d1, d2, d3, d4, d5, n1 1 (by omega), n1 2 (by omega), n1 3 (by omega), n1 4 (by omega), n1 5 (by omega), n1 6 (by omega)]
    rfl
  have m1 : (List.range (c_nd o + 1)).map (fun i => (va_up ad (100 + c_nd o) q (100 + i), (.inr (1, cx_dial (gD o f r) i) : va_E))) = (List.range (c_nd o)).map (fun i => (ad (100 + i), (.inr (1, cx_dial o i) : va_E))) ++ [(q, .inr (1, [.int f, .long r, .long 0, .long 0]))] := by
    rw [List.range_succ, List.map_append]
    congr 1
    · apply List.map_congr_left
      intro i hi
      have hi := List.mem_range.mp hi
      have e : cx_dial (gD o f r) i = cx_dial o i := by
        show [Value.int (va_up (c_dF o) (c_nd o) f i), Value.long (va_up (c_dR o) (c_nd o) r i), Value.long (va_up (c_dP o) (c_nd o) 0 i), Value.long (va_up (c_dL o) (c_nd o) 0 i)] = _
        rw [up_ne (by omega), up_ne (by omega), up_ne (by omega), up_ne (by omega)]
        rfl
      show (_, _) = (_, _)
      rw [e, n1 _ (by omega)]
    · have e : cx_dial (gD o f r) (c_nd o) = [.int f, .long r, .long 0, .long 0] := by
        show [Value.int (va_up (c_dF o) (c_nd o) f (c_nd o)), Value.long (va_up (c_dR o) (c_nd o) r (c_nd o)), Value.long (va_up (c_dP o) (c_nd o) 0 (c_nd o)), Value.long (va_up (c_dL o) (c_nd o) 0 (c_nd o))] = _
        rw [up_eq, up_eq, up_eq, up_eq]
      show [(_, _)] = [(_, _)]
      rw [e, up_eq]
  have m2 : (List.range (c_nv o)).map (fun i => (va_up ad (100 + c_nd o) q (200 + i), cx_drive (gD o f r) i)) = (List.range (c_nv o)).map (fun i => (ad (200 + i), cx_drive o i)) := by
    apply List.map_congr_left
    intro i _
    show (_, cx_drive o i) = (_, cx_drive o i)
    rw [n1 _ (by omega)]
  have m3 : (List.range 16).map (fun i => (va_up ad (100 + c_nd o) q (300 + i), (.inr (3, cx_row (va_up ad (100 + c_nd o) q) (gD o f r) i) : va_E))) = (List.range 16).map (fun i => (ad (300 + i), (.inr (3, cx_row ad o i) : va_E))) := by
    apply List.map_congr_left
    intro i _
    have e : cx_row (va_up ad (100 + c_nd o) q) (gD o f r) i = cx_row ad o i := by
      show [Value.ref (va_up ad (100 + c_nd o) q (400 + i)), _] = [_, _]
      rw [n1 _ (by omega)]
      rfl
    show (_, _) = (_, _)
    rw [e, n1 _ (by omega)]
  have m4 : (List.range 16).map (fun i => (va_up ad (100 + c_nd o) q (400 + i), (.inl (cy 1, 16, .inr (.inl (c_rP o i))) : va_E))) = (List.range 16).map (fun i => (ad (400 + i), (.inl (cy 1, 16, .inr (.inl (c_rP o i))) : va_E))) := by
    apply List.map_congr_left
    intro i _
    show (_, _) = (_, _)
    rw [n1 _ (by omega)]
  have e : WX cy x (va_up ad (100 + c_nd o) q) (gD o f r) = cx_h cy x (va_up ad (100 + c_nd o) q) (gD o f r) ++ ((List.range (c_nd o + 1)).map (fun i => (va_up ad (100 + c_nd o) q (100 + i), (.inr (1, cx_dial (gD o f r) i) : va_E))) ++ ((List.range (c_nv o)).map (fun i => (va_up ad (100 + c_nd o) q (200 + i), cx_drive (gD o f r) i)) ++ ((List.range 16).map (fun i => (va_up ad (100 + c_nd o) q (300 + i), (.inr (3, cx_row (va_up ad (100 + c_nd o) q) (gD o f r) i) : va_E))) ++ (List.range 16).map (fun i => (va_up ad (100 + c_nd o) q (400 + i), (.inl (cy 1, 16, .inr (.inl (c_rP o i))) : va_E)))))) := rfl
  rw [e, hh, m1, m2, m3, m4]
  exact ls_mvE rfl
theorem ls_mv2 {α : Type} (h d v r : List α) (n : α) : (h ++ (d ++ (v ++ r)) ++ [n]).Perm (h ++ (d ++ ((v ++ [n]) ++ r))) := by
  rw [List.append_assoc, List.append_assoc, List.append_assoc, List.append_assoc]
  exact List.Perm.append_left h (List.Perm.append_left d (List.Perm.append_left v List.perm_append_comm))
theorem dr_e {o' : Os} {i : Nat} (h1 : c_vS o' i = c_vS o i) (h2 : c_vP o' i = c_vP o i) (h3 : c_vC o' i = c_vC o i) (h4 : c_vG o' i = c_vG o i) : cx_drive o' i = cx_drive o i := by
  unfold cx_drive cx_spring cx_crank cx_fly
  rw [h1, h2, h3, h4]
theorem dr_n {o' : Os} {i : Nat} {a : Int32} {v : Int64} (ha : ¬ a < 0) (h1 : c_vS o' i = a.toNatClampNeg) (h2 : c_vP o' i = v) (h3 : c_vC o' i = 0) (h4 : c_vG o' i = 1) : cx_drive o' i = nw_e a (nI i) v := by
  have t0 : (0 : Int32).toInt = 0 := rfl
  have t1 : (1 : Int32).toInt = 1 := rfl
  have ha' : ¬ a.toInt < 0 := fun q => ha (Int32.lt_iff_toInt_lt.mpr (by rw [t0]; exact q))
  have e0 : a.toNatClampNeg = a.toInt.toNat := rfl
  unfold cx_drive cx_spring cx_crank cx_fly
  rw [h1, h2, h3, h4]
  by_cases g : a = 0
  · rw [nw_0 g, if_pos (by rw [g]; rfl)]
  · have g' : ¬ a.toInt = 0 := fun q => g (Int32.toInt_inj.mp (by rw [t0]; exact q))
    rw [if_neg (by omega)]
    by_cases g1 : a = 1
    · rw [nw_1 g g1, if_pos (by rw [g1]; rfl)]
    · have g2 : ¬ a.toInt = 1 := fun q => g1 (Int32.toInt_inj.mp (by rw [t1]; exact q))
      rw [nw_2 g g1, if_neg (by omega)]
theorem ar_cg {D : va_G} {cl : List vw_C} {H : Heap} {b n : Nat} {c : ClassId} {f f' : Nat → Option Nat} (h : ∀ j, j < n → f j = f' j) (hv : va_at D cl (b, .inl (c, n, .inr (.inr (.inr (.inr f))))) H) : va_at D cl (b, .inl (c, n, .inr (.inr (.inr (.inr f'))))) H := by
  have e : vp_cell c (n, .inr (.inr (.inr (.inr f')))) = vp_cell c (n, .inr (.inr (.inr (.inr f)))) := by
    rw [vp_cell_q, vp_cell_q]
    unfold arrV
    have e2 : (fun j : Fin n => va_rf (f' j.val)) = (fun j : Fin n => va_rf (f j.val)) := funext fun j => by rw [h j.val j.isLt]
    show ({ cls := c, slots := Array.ofFn (fun j : Fin n => va_rf (f' j.val)), vm := .none } : Cell) = { cls := c, slots := Array.ofFn (fun j : Fin n => va_rf (f j.val)), vm := .none }
    rw [e2]
  show H[b]? = some (vp_cell c (n, .inr (.inr (.inr (.inr f')))))
  rw [e]
  exact hv
/-- a drive is made: what stands in slots and shafts stays -/
theorem wx_g_drive {A : Nat → Prop} {D : va_G} {H : Heap} (hn : c_nd o ≤ 12) (q : Nat) (a : Int32) (v : Int64) (ha : ¬ a < 0) (hv : c_nv o < 20) (hs : ∀ i, i < 6 → ∀ d, c_sl o i = some d → d < c_nv o) (hh : ∀ i, i < 8 → ∀ d, c_sh o i = some d → d < c_nv o)
    (hP : va_P D vwCl (((WX cy x ad o ++ [(q, nw_e a (nI (c_nv o)) v)]).set 2 (ad 2, .inl (cy 6, 20, .inr (.inr (.inr (.inr (va_up (cx_vr ad o) (c_nv o) (some q)))))))).set 0 (x, .inr (5, (cx_f ad o).set 3 (.int (nI (c_nv o + 1)))))) H)
    (hD : va_D A (((WX cy x ad o ++ [(q, nw_e a (nI (c_nv o)) v)]).set 2 (ad 2, .inl (cy 6, 20, .inr (.inr (.inr (.inr (va_up (cx_vr ad o) (c_nv o) (some q)))))))).set 0 (x, .inr (5, (cx_f ad o).set 3 (.int (nI (c_nv o + 1))))))) :
    va_P D vwCl (WX cy x (va_up ad (200 + c_nv o) q) (gV o a.toNatClampNeg v)) H ∧ va_D A (WX cy x (va_up ad (200 + c_nv o) q) (gV o a.toNatClampNeg v)) := by
  have n1 : ∀ j, j ≠ 200 + c_nv o → (va_up ad (200 + c_nv o) q) j = ad j := fun j h => va_up_ne ad q h
  have s3 : ∀ j, j < 6 → cx_sr ad o j = cx_sr (va_up ad (200 + c_nv o) q) (gV o a.toNatClampNeg v) j := by
    intro j hj
    show (c_sl o j).map (fun k => ad (200 + k)) = (c_sl o j).map (fun k => (va_up ad (200 + c_nv o) q) (200 + k))
    cases h : c_sl o j with
    | none => rfl
    | some d =>
      have := hs j hj d h
      exact congrArg some (n1 (200 + d) (by omega)).symm
  have s4 : ∀ j, j < 8 → cx_hr ad o j = cx_hr (va_up ad (200 + c_nv o) q) (gV o a.toNatClampNeg v) j := by
    intro j hj
    show (c_sh o j).map (fun k => ad (200 + k)) = (c_sh o j).map (fun k => (va_up ad (200 + c_nv o) q) (200 + k))
    cases h : c_sh o j with
    | none => rfl
    | some d =>
      have := hh j hj d h
      exact congrArg some (n1 (200 + d) (by omega)).symm
  have p3 := hP.set hD (p := 3) (a := ad 3) (e0 := .inl (cy 6, 6, .inr (.inr (.inr (.inr (cx_sr ad o)))))) (e := .inl (cy 6, 6, .inr (.inr (.inr (.inr (cx_sr (va_up ad (200 + c_nv o) q) (gV o a.toNatClampNeg v))))))) (H1 := H) rfl (ar_cg s3 (hP 3 _ rfl)) (fun _ _ => rfl)
  have q3 := hD.set (p := 3) (a := ad 3) (e0 := .inl (cy 6, 6, .inr (.inr (.inr (.inr (cx_sr ad o)))))) (e := .inl (cy 6, 6, .inr (.inr (.inr (.inr (cx_sr (va_up ad (200 + c_nv o) q) (gV o a.toNatClampNeg v))))))) rfl
  have p4 := p3.set q3 (p := 4) (a := ad 4) (e0 := .inl (cy 6, 8, .inr (.inr (.inr (.inr (cx_hr ad o)))))) (e := .inl (cy 6, 8, .inr (.inr (.inr (.inr (cx_hr (va_up ad (200 + c_nv o) q) (gV o a.toNatClampNeg v))))))) (H1 := H) rfl (ar_cg s4 (p3 4 _ rfl)) (fun _ _ => rfl)
  have q4 := q3.set (p := 4) (a := ad 4) (e0 := .inl (cy 6, 8, .inr (.inr (.inr (.inr (cx_hr ad o)))))) (e := .inl (cy 6, 8, .inr (.inr (.inr (.inr (cx_hr (va_up ad (200 + c_nv o) q) (gV o a.toNatClampNeg v))))))) rfl
  clear hP hD p3 q3
  have d1 : cx_dr (va_up ad (200 + c_nv o) q) (gV o a.toNatClampNeg v) = cx_dr ad o := by
    funext j
    show (if j < c_nd o then some ((va_up ad (200 + c_nv o) q) (100 + j)) else none) = (if j < c_nd o then some (ad (100 + j)) else none)
    by_cases h1 : j < c_nd o
    · rw [if_pos h1, if_pos h1, n1 _ (by omega)]
    · rw [if_neg h1, if_neg h1]
  have d2 : cx_vr (va_up ad (200 + c_nv o) q) (gV o a.toNatClampNeg v) = va_up (cx_vr ad o) (c_nv o) (some q) := by
    funext j
    show (if j < c_nv o + 1 then some ((va_up ad (200 + c_nv o) q) (200 + j)) else none) = (if j = c_nv o then some q else if j < c_nv o then some (ad (200 + j)) else none)
    by_cases h1 : j = c_nv o
    · rw [if_pos (by omega), if_pos h1, h1, va_up_self]
    · by_cases h2 : j < c_nv o
      · rw [if_pos (by omega), if_neg h1, if_pos h2, n1 _ (by omega)]
      · rw [if_neg (by omega), if_neg h1, if_neg h2]
  have d5 : cx_rr (va_up ad (200 + c_nv o) q) = cx_rr ad := by
    funext j
    show some _ = some _
    rw [n1 _ (by omega)]
  have hh : cx_h cy x (va_up ad (200 + c_nv o) q) (gV o a.toNatClampNeg v) = [(x, .inr (5, (cx_f ad o).set 3 (.int (nI (c_nv o + 1))))), (ad 1, .inl (cy 5, 12, .inr (.inr (.inr (.inr (cx_dr ad o)))))), (ad 2, .inl (cy 6, 20, .inr (.inr (.inr (.inr (va_up (cx_vr ad o) (c_nv o) (some q))))))), (ad 3, .inl (cy 6, 6, .inr (.inr (.inr (.inr (cx_sr (va_up ad (200 + c_nv o) q) (gV o a.toNatClampNeg v))))))), (ad 4, .inl (cy 6, 8, .inr (.inr (.inr (.inr (cx_hr (va_up ad (200 + c_nv o) q) (gV o a.toNatClampNeg v))))))), (ad 5, .inl (cy 7, 16, .inr (.inr (.inr (.inr (cx_rr ad)))))), (ad 6, .inl (cy 0, 5, .inl (c_cn o)))] := by
    unfold cx_h cx_f
    rw [d1, d2, d5, n1 1 (by omega), n1 2 (by omega), n1 3 (by omega), n1 4 (by omega), n1 5 (by omega), n1 6 (by omega)]
    rfl
  have m1 : (List.range (c_nd o)).map (fun i => ((va_up ad (200 + c_nv o) q) (100 + i), (.inr (1, cx_dial (gV o a.toNatClampNeg v) i) : va_E))) = (List.range (c_nd o)).map (fun i => (ad (100 + i), (.inr (1, cx_dial o i) : va_E))) := by
    apply List.map_congr_left
    intro i hi
    have hi := List.mem_range.mp hi
    show (_, (.inr (1, cx_dial o i) : va_E)) = (_, _)
    rw [n1 _ (by omega)]
  have m2 : (List.range (c_nv o + 1)).map (fun i => ((va_up ad (200 + c_nv o) q) (200 + i), cx_drive (gV o a.toNatClampNeg v) i)) = (List.range (c_nv o)).map (fun i => (ad (200 + i), cx_drive o i)) ++ [(q, nw_e a (nI (c_nv o)) v)] := by
    rw [List.range_succ, List.map_append]
    congr 1
    · apply List.map_congr_left
      intro i hi
      have hi := List.mem_range.mp hi
      have e : cx_drive (gV o a.toNatClampNeg v) i = cx_drive o i := dr_e (up_ne (by omega)) (up_ne (by omega)) (up_ne (by omega)) (up_ne (by omega))
      show (_, _) = (_, _)
      rw [e, n1 _ (by omega)]
    · have e : cx_drive (gV o a.toNatClampNeg v) (c_nv o) = nw_e a (nI (c_nv o)) v := dr_n ha up_eq up_eq up_eq up_eq
      show [(_, _)] = [(_, _)]
      rw [e, up_eq]
  have m3 : (List.range 16).map (fun i => ((va_up ad (200 + c_nv o) q) (300 + i), (.inr (3, cx_row (va_up ad (200 + c_nv o) q) (gV o a.toNatClampNeg v) i) : va_E))) = (List.range 16).map (fun i => (ad (300 + i), (.inr (3, cx_row ad o i) : va_E))) := by
    apply List.map_congr_left
    intro i _
    have e : cx_row (va_up ad (200 + c_nv o) q) (gV o a.toNatClampNeg v) i = cx_row ad o i := by
      show [Value.ref ((va_up ad (200 + c_nv o) q) (400 + i)), _] = [_, _]
      rw [n1 _ (by omega)]
      rfl
    show (_, _) = (_, _)
    rw [e, n1 _ (by omega)]
  have m4 : (List.range 16).map (fun i => ((va_up ad (200 + c_nv o) q) (400 + i), (.inl (cy 1, 16, .inr (.inl (c_rP o i))) : va_E))) = (List.range 16).map (fun i => (ad (400 + i), (.inl (cy 1, 16, .inr (.inl (c_rP o i))) : va_E))) := by
    apply List.map_congr_left
    intro i _
    show (_, _) = (_, _)
    rw [n1 _ (by omega)]
  have e : WX cy x (va_up ad (200 + c_nv o) q) (gV o a.toNatClampNeg v) = cx_h cy x (va_up ad (200 + c_nv o) q) (gV o a.toNatClampNeg v) ++ ((List.range (c_nd o)).map (fun i => ((va_up ad (200 + c_nv o) q) (100 + i), (.inr (1, cx_dial (gV o a.toNatClampNeg v) i) : va_E))) ++ ((List.range (c_nv o + 1)).map (fun i => ((va_up ad (200 + c_nv o) q) (200 + i), cx_drive (gV o a.toNatClampNeg v) i)) ++ ((List.range 16).map (fun i => ((va_up ad (200 + c_nv o) q) (300 + i), (.inr (3, cx_row (va_up ad (200 + c_nv o) q) (gV o a.toNatClampNeg v) i) : va_E))) ++ (List.range 16).map (fun i => ((va_up ad (200 + c_nv o) q) (400 + i), (.inl (cy 1, 16, .inr (.inl (c_rP o i))) : va_E)))))) := rfl
  rw [e, hh, m1, m2, m3, m4]
  exact ⟨va_P_perm (ls_mv2 _ _ _ _ _) p4, va_D_perm (ls_mv2 _ _ _ _ _) q4⟩
end GR
set_option linter.constructorNameAsVariable false in
set_option maxHeartbeats 8000000 in
set_option maxRecDepth 100000 in
theorem qX7_dial (l : Launch) (dC : Nat → ClassId) (dI : Nat → Nat → Nat) (cy : Nat → ClassId) (x : Nat) (ad : Nat → Nat) (sz : Nat) (o : Os) (a1 : Int32) (a2 : Int64) (hb1 : a1 = 0 ∨ a1 = 1) (hn : c_nd o ≤ 12) : Met l yX7_dial wsX7_dial ({ frames := 6, cells := 1, slots := 4, locals := 158 }) (va_Pc [.ref x, .int a1, .long a2] (wI (dC, dI) (tyA cy) (WX cy x ad o) sz)) (va_Qi (fun r (u : Os × (Nat → Nat)) => (r, u.1) = jX7_dial o a1 a2) (fun u t => wO (dC, dI) (tyA cy) (va_A (WX cy x ad o) sz) (WX cy x u.2 u.1) t) (va_A (WX cy x ad o) sz)) 1 4 (va_A (WX cy x ad o) sz) := by
  refine Met.ofW (cc := cX7_dial) (maxL := 6) (ret := some .int) (by decide) rfl ?_
  intro p e s m args below meth c s₁ B hml hv
  obtain ⟨rfl, hsz, hP, hK, hD0, hk⟩ := hv
  have hx := B.exec
  have hb := B.bytes
  have hr := B.returns
  have hts := atoms_spec (ws := wsX7_dial) B.pre
  have hown : s.vm.findClass RX7 = some m.cls := findClass_of_methodNamed B.named
  have hlocks := B.notSynchronized
  subst hsz
  have hD := hD0.self (sz := s.heap.size)
  generalize hAe : va_A (WX cy x ad o) s.heap.size = A at hD ⊢
  have hA : ∀ q : Nat, s.heap.size ≤ q → A q := fun q h => by rw [← hAe]; exact Or.inr h
  obtain ⟨H, hHe⟩ : ∃ H, s.heap = H := ⟨_, rfl⟩
  have hP : va_P (dC, dI) vwCl (WX cy x ad o) H := by rw [← hHe]; exact hP
  have hS : va_S A s.heap H [] := by rw [← hHe]; exact va_S.rf
  rw [w_heap hHe]
  have hi_wsX70 : ∀ w ∈ wsX70, w ∈ wsX7_dial := fun _ h => List.mem_cons_of_mem _ (List.mem_append_left _ (List.mem_append_right _ h))
  have hi_wsX10 : ∀ w ∈ wsX10, w ∈ wsX7_dial := fun _ h => List.mem_cons_of_mem _ (List.mem_append_right _ h)
  have hl := lv_entry ([.ref x, .int a1, .long a2]) (n := 6) (Nat.le_of_ble_eq_true rfl)
  rw [lg_entry_eq]
  generalize (lg_sl ([.ref x, .int a1, .long a2]) ++ List.replicate (6 - (lg_sl ([.ref x, .int a1, .long a2])).length) Slot.unset).toArray = ls at hl ⊢
  have hl : lv_has ls 6 [(0, .ref x), (1, .int a1), (2, .long a2)] := hl
  refine lv_iload_n hx hb dX7_dial_0 rfl (lv_at hl 1 rfl) ?_
  refine lv_lload_n hx hb dX7_dial_1 rfl (lv_at hl 2 rfl) ?_
  refine vp_callSl (W.runS (As := [.int a1, .long a2]) (rest := []) ⟨hx, hb, hml, hown, hts⟩ (qX4_told l a1 a2) (va_cwS 2 hts gX7_dial_X4_told rfl rfl rfl (by decide +kernel) ⟨Nat.le_of_ble_eq_true rfl, Nat.le_of_ble_eq_true rfl⟩) ⟨fun _ _ _ _ q => q, fun U hU hW => rfl⟩ rfl rfl hl.1 rfl (lv_room (Nat.le_of_ble_eq_true rfl)) dX7_dial_2 ⟨Nat.le_of_ble_eq_true rfl, Nat.le_of_ble_eq_true rfl⟩) (fun r hq9 => ?_)
  rw [hq9]
  obtain ⟨y, hy⟩ : ∃ y, jX4_told a1 a2 = y := ⟨_, rfl⟩
  have hJE : jX7_dial o a1 a2 = (if jX4_isFit a1 y = 0 then ((-102 : Int32), o) else if jX4_isZero a1 y = 0 then (if nI (c_nd o) < (12 : Int32) then (nI (c_nd o), gD o a1 y) else ((-103 : Int32), o)) else ((-102 : Int32), o)) := by unfold jX7_dial; rw [hy]
  rw [hy]
  refine lv_lstore (lv' := [(4, .long y), (0, .ref x), (1, .int a1), (2, .long a2)]) hx hb dX7_dial_5 hl (by decide) rfl (fun ls hl => ?_)
  refine lv_iload_n hx hb dX7_dial_7 rfl (lv_at hl 2 rfl) ?_
  refine lv_lload hx hb dX7_dial_8 (lv_at hl 0 rfl) ?_
  refine vp_callSi (W.runS (As := [.int a1, .long y]) (rest := []) ⟨hx, hb, hml, hown, hts⟩ (qX4_isFit l a1 y) (va_cwS 2 hts gX7_dial_X4_isFit rfl rfl rfl (by decide +kernel) ⟨Nat.le_of_ble_eq_true rfl, Nat.le_of_ble_eq_true rfl⟩) ⟨fun _ _ _ _ q => q, fun U hU hW => rfl⟩ rfl rfl hl.1 rfl (lv_room (Nat.le_of_ble_eq_true rfl)) dX7_dial_10 ⟨Nat.le_of_ble_eq_true rfl, Nat.le_of_ble_eq_true rfl⟩) (fun r hq9 => ?_)
  rw [hq9]
  refine lv_if_eq (tgt := 25) hx hb dX7_dial_13 (by decide) (fun c1 => ?_) (fun c1 => ?_)
  · skip
    have hJ : ((-102 : Int32), o) = jX7_dial o a1 a2 := by rw [hJE, if_pos c1]
    refine lv_bipush (v := (-102 : Int32)) hx hb dX7_dial_25 (by decide) ?_
    refine W.widen (k := 1) (n := 4) (Nat.le_of_ble_eq_true rfl) (Nat.le_of_ble_eq_true rfl) ?_
    exact W.iret hx hb hr (fun t ht hW => ⟨⟨_, (o, ad), rfl, hJ, by rw [ht]; exact hP, va_K.moved hW.alike hK, hD⟩, hS.F ht⟩) hS.2.2 dX7_dial_27
  · skip
    refine lv_iload_n hx hb dX7_dial_16 rfl (lv_at hl 2 rfl) ?_
    refine lv_lload hx hb dX7_dial_17 (lv_at hl 0 rfl) ?_
    refine vp_callSi (W.runS (As := [.int a1, .long y]) (rest := []) ⟨hx, hb, hml, hown, hts⟩ (qX4_isZero l a1 y) (va_cwS 2 hts gX7_dial_X4_isZero rfl rfl rfl (by decide +kernel) ⟨Nat.le_of_ble_eq_true rfl, Nat.le_of_ble_eq_true rfl⟩) ⟨fun _ _ _ _ q => q, fun U hU hW => rfl⟩ rfl rfl hl.1 rfl (lv_room (Nat.le_of_ble_eq_true rfl)) dX7_dial_19 ⟨Nat.le_of_ble_eq_true rfl, Nat.le_of_ble_eq_true rfl⟩) (fun r hq9 => ?_)
    rw [hq9]
    refine lv_if_eq (tgt := 28) hx hb dX7_dial_22 (by decide) (fun c2 => ?_) (fun c2 => ?_)
    · skip
      refine lv_aload_n hx hb dX7_dial_28 rfl (lv_at hl 1 rfl) ?_
      refine va_get (D := (dC, dI)) (ci := 5) (v := .int (nI (c_nd o))) (C := RX7) (T := TX7) (N := 10) (fs := (cx_f ad o)) hx hb hts hi_wsX70 hown hK hP 0 (wx_h (o := o) rfl) rfl 1 (by decide) (hts (.fieldLink RX7 15 "OrreryDials" "dialCount" "I") (by decide +kernel)) (fun _ h9 => h9) rfl dX7_dial_29 ?_
      refine lv_bipush (v := (12 : Int32)) hx hb dX7_dial_32 (by decide) ?_
      refine lv_icmp_lt (tgt := 40) hx hb dX7_dial_34 (by decide) (fun c3 => ?_) (fun c3 => ?_)
      · skip
        have hJ : (nI (c_nd o), gD o a1 y) = jX7_dial o a1 a2 := by rw [hJE, if_neg c1, if_pos c2, if_pos c3]
        have hn2 : c_nd o < 12 := by
          have := Int32.lt_iff_toInt_lt.mp c3
          rw [nI_toInt (by omega)] at this
          have e12 : (12 : Int32).toInt = 12 := rfl
          omega
        refine lv_aload_n hx hb dX7_dial_40 rfl (lv_at hl 1 rfl) ?_
        refine va_get (D := (dC, dI)) (ci := 5) (v := .ref (ad 1)) (C := RX7) (T := TX7) (N := 10) (fs := (cx_f ad o)) hx hb hts hi_wsX70 hown hK hP 0 (wx_h (o := o) rfl) rfl 0 (by decide) (hts (.fieldLink RX7 11 "OrreryDials" "dials" "[LOrreryDials$Dial;") (by decide +kernel)) (fun _ h9 => h9) rfl dX7_dial_41 ?_
        refine lv_aload_n hx hb dX7_dial_44 rfl (lv_at hl 1 rfl) ?_
        refine va_get (D := (dC, dI)) (ci := 5) (v := .int (nI (c_nd o))) (C := RX7) (T := TX7) (N := 10) (fs := (cx_f ad o)) hx hb hts hi_wsX70 hown hK hP 0 (wx_h (o := o) rfl) rfl 1 (by decide) (hts (.fieldLink RX7 15 "OrreryDials" "dialCount" "I") (by decide +kernel)) (fun _ h9 => h9) rfl dX7_dial_45 ?_
        refine va_new (D := (dC, dI)) (ci := 1) (fs := [.int 0, .long 0, .long 0, .long 0]) (C := RX1) (T := TX1) (N := 4) hx hb hts hi_wsX10 tyX1 tyX1_ok hown (hts (.classLink RX7 9 RX1) (by decide +kernel)) (hts (.instantiable RX1 4) (by decide +kernel)) (hts (.initialized RX1) (by decide +kernel)) hK hP hD hS hA rfl (fun j hj => by rcases (show j = 0 ∨ j = 1 ∨ j = 2 ∨ j = 3 by omega) with rfl | rfl | rfl | rfl <;> rfl) (Nat.le_of_ble_eq_true rfl) (Nat.le_of_ble_eq_true rfl) dX7_dial_48 (fun q H hP hD hS => ?_)
        refine lv_dup hx hb dX7_dial_51 rfl ?_
        refine lv_iload_n hx hb dX7_dial_52 rfl (lv_at hl 2 rfl) ?_
        refine lv_lload hx hb dX7_dial_53 (lv_at hl 0 rfl) ?_
        refine cl_tail (va_runI (As := [.int a1, .long y]) (rest := [.ref q, .int (nI (c_nd o)), .ref (ad 1)]) ⟨hx, hb, hml, hown, hts⟩ (qX1_init l dC dI cy q H.size a1 y hb1) (cwI 2 hts gX7_dial_X1_init rfl rfl rfl (hts (.initialized RX1) (by decide +kernel)) (hts (.methodLink RX7 65 yX1_init) (by decide +kernel)) (hts (.instanceMethod yX1_init) (by decide +kernel)) rfl (by decide +kernel) ⟨Nat.le_of_ble_eq_true rfl, Nat.le_of_ble_eq_true rfl⟩) (pS hK (tl_P hP) (tl_D hD) hk) rfl rfl hl.1 rfl (lv_room (Nat.le_of_ble_eq_true rfl)) dX7_dial_55 ⟨Nat.le_of_ble_eq_true rfl, Nat.le_of_ble_eq_true rfl⟩) hP hD hS hA (fun H locs hP hD hS => ?_)
        refine va_astq hx hb hK hP hD hS 1 5 (WX cy x ad o).length 1 (r := (RX1, TX1, 4)) (ap_getl (wx_h (o := o) rfl)) rfl w_last rfl (nI_in hn2 (by decide)) dX7_dial_58 (fun H locs hP hD hS => ?_)
        rw [nI_clamp (by omega)] at hP hD
        refine lv_aload_n hx hb dX7_dial_59 rfl (lv_at hl 1 rfl) ?_
        refine lv_dup hx hb dX7_dial_60 rfl ?_
        refine va_get (D := (dC, dI)) (ci := 5) (v := .int (nI (c_nd o))) (C := RX7) (T := TX7) (N := 10) (fs := (cx_f ad o)) hx hb hts hi_wsX70 hown hK hP 0 (rfl) rfl 1 (by decide) (hts (.fieldLink RX7 15 "OrreryDials" "dialCount" "I") (by decide +kernel)) (fun _ h9 => h9) rfl dX7_dial_61 ?_
        refine lv_dup_x1 hx hb dX7_dial_64 rfl rfl ?_
        refine lv_iconst (v := (1 : Int32)) hx hb dX7_dial_65 (by decide) ?_
        refine lv_iadd hx hb dX7_dial_66 ?_
        rw [show nI (c_nd o) + (1 : Int32) = nI (c_nd o + 1) from nI_1 _]
        refine va_put (D := (dC, dI)) (ci := 5) (v := .int (nI (c_nd o + 1))) (ty := .int) (C := RX7) (T := TX7) (N := 10) (fs := (cx_f ad o)) hx hb hts hi_wsX70 tyX7 tyX7_ok nmX7 hown hK hP hD hS 0 rfl rfl 1 (by decide) (hts (.fieldLink RX7 15 "OrreryDials" "dialCount" "I") (by decide +kernel)) (fun _ h9 => h9) rfl (by decide +kernel) rfl rfl (Nat.le_of_ble_eq_true rfl) dX7_dial_67 (fun H locs hP hD hS => ?_)
        have hP := va_P_perm (wx_g_dial (cy := cy) (x := x) (ad := ad) hn2 q a1 y) hP
        have hD := va_D_perm (wx_g_dial (cy := cy) (x := x) (ad := ad) hn2 q a1 y) hD
        refine W.widen (k := 1) (n := 4) (Nat.le_of_ble_eq_true rfl) (Nat.le_of_ble_eq_true rfl) ?_
        exact W.iret hx hb hr (fun t ht hW => ⟨⟨_, (gD o a1 y, va_up ad (100 + c_nd o) q), rfl, hJ, by rw [ht]; exact hP, va_K.moved hW.alike hK, hD⟩, hS.F ht⟩) hS.2.2 dX7_dial_70
      · skip
        have hJ : ((-103 : Int32), o) = jX7_dial o a1 a2 := by rw [hJE, if_neg c1, if_pos c2, if_neg c3]
        refine lv_bipush (v := (-103 : Int32)) hx hb dX7_dial_37 (by decide) ?_
        refine W.widen (k := 1) (n := 4) (Nat.le_of_ble_eq_true rfl) (Nat.le_of_ble_eq_true rfl) ?_
        exact W.iret hx hb hr (fun t ht hW => ⟨⟨_, (o, ad), rfl, hJ, by rw [ht]; exact hP, va_K.moved hW.alike hK, hD⟩, hS.F ht⟩) hS.2.2 dX7_dial_39
    · skip
      have hJ : ((-102 : Int32), o) = jX7_dial o a1 a2 := by rw [hJE, if_neg c1, if_neg c2]
      refine lv_bipush (v := (-102 : Int32)) hx hb dX7_dial_25 (by decide) ?_
      refine W.widen (k := 1) (n := 4) (Nat.le_of_ble_eq_true rfl) (Nat.le_of_ble_eq_true rfl) ?_
      exact W.iret hx hb hr (fun t ht hW => ⟨⟨_, (o, ad), rfl, hJ, by rw [ht]; exact hP, va_K.moved hW.alike hK, hD⟩, hS.F ht⟩) hS.2.2 dX7_dial_27
set_option linter.constructorNameAsVariable false in
set_option maxHeartbeats 8000000 in
set_option maxRecDepth 100000 in
theorem qX7_drive (l : Launch) (dC : Nat → ClassId) (dI : Nat → Nat → Nat) (cy : Nat → ClassId) (x : Nat) (ad : Nat → Nat) (sz : Nat) (o : Os) (a1 : Int32) (a2 : Int64) (hnd : c_nd o ≤ 12) (hn : c_nv o ≤ 20) (hs : ∀ i, i < 6 → ∀ d, c_sl o i = some d → d < c_nv o) (hh : ∀ i, i < 8 → ∀ d, c_sh o i = some d → d < c_nv o) : Met l yX7_drive wsX7_drive ({ frames := 6, cells := 1, slots := 4, locals := 158 }) (va_Pc [.ref x, .int a1, .long a2] (wI (dC, dI) (tyA cy) (WX cy x ad o) sz)) (va_Qi (fun r (u : Os × (Nat → Nat)) => (r, u.1) = jX7_drive o a1 a2) (fun u t => wO (dC, dI) (tyA cy) (va_A (WX cy x ad o) sz) (WX cy x u.2 u.1) t) (va_A (WX cy x ad o) sz)) 1 4 (va_A (WX cy x ad o) sz) := by
  refine Met.ofW (cc := cX7_drive) (maxL := 4) (ret := some .int) (by decide) rfl ?_
  intro p e s m args below meth c s₁ B hml hv
  obtain ⟨rfl, hsz, hP, hK, hD0, hk⟩ := hv
  have hx := B.exec
  have hb := B.bytes
  have hr := B.returns
  have hts := atoms_spec (ws := wsX7_drive) B.pre
  have hown : s.vm.findClass RX7 = some m.cls := findClass_of_methodNamed B.named
  have hlocks := B.notSynchronized
  subst hsz
  have hD := hD0.self (sz := s.heap.size)
  generalize hAe : va_A (WX cy x ad o) s.heap.size = A at hD ⊢
  have hA : ∀ q : Nat, s.heap.size ≤ q → A q := fun q h => by rw [← hAe]; exact Or.inr h
  obtain ⟨H, hHe⟩ : ∃ H, s.heap = H := ⟨_, rfl⟩
  have hP : va_P (dC, dI) vwCl (WX cy x ad o) H := by rw [← hHe]; exact hP
  have hS : va_S A s.heap H [] := by rw [← hHe]; exact va_S.rf
  rw [w_heap hHe]
  have hi_wsX70 : ∀ w ∈ wsX70, w ∈ wsX7_drive := fun _ h => List.mem_cons_of_mem _ (List.mem_append_left _ (List.mem_append_left _ (List.mem_append_left _ (List.mem_append_right _ h))))
  have hl := lv_entry ([.ref x, .int a1, .long a2]) (n := 4) (Nat.le_of_ble_eq_true rfl)
  rw [lg_entry_eq]
  generalize (lg_sl ([.ref x, .int a1, .long a2]) ++ List.replicate (4 - (lg_sl ([.ref x, .int a1, .long a2])).length) Slot.unset).toArray = ls at hl ⊢
  have hl : lv_has ls 4 [(0, .ref x), (1, .int a1), (2, .long a2)] := hl
  refine lv_iload_n hx hb dX7_drive_0 rfl (lv_at hl 1 rfl) ?_
  refine lv_if_lt (tgt := 17) hx hb dX7_drive_1 (by decide) (fun c1 => ?_) (fun c1 => ?_)
  · skip
    have hJ : ((-102 : Int32), o) = jX7_drive o a1 a2 := by unfold jX7_drive; rw [if_pos c1]
    refine lv_bipush (v := (-102 : Int32)) hx hb dX7_drive_17 (by decide) ?_
    refine W.widen (k := 1) (n := 4) (Nat.le_of_ble_eq_true rfl) (Nat.le_of_ble_eq_true rfl) ?_
    exact W.iret hx hb hr (fun t ht hW => ⟨⟨_, (o, ad), rfl, hJ, by rw [ht]; exact hP, va_K.moved hW.alike hK, hD⟩, hS.F ht⟩) hS.2.2 dX7_drive_19
  · skip
    refine lv_iload_n hx hb dX7_drive_4 rfl (lv_at hl 1 rfl) ?_
    refine lv_iconst (v := (2 : Int32)) hx hb dX7_drive_5 (by decide) ?_
    refine lv_icmp_gt (tgt := 17) hx hb dX7_drive_6 (by decide) (fun c2 => ?_) (fun c2 => ?_)
    · skip
      have hJ : ((-102 : Int32), o) = jX7_drive o a1 a2 := by unfold jX7_drive; rw [if_neg c1, if_pos c2]
      refine lv_bipush (v := (-102 : Int32)) hx hb dX7_drive_17 (by decide) ?_
      refine W.widen (k := 1) (n := 4) (Nat.le_of_ble_eq_true rfl) (Nat.le_of_ble_eq_true rfl) ?_
      exact W.iret hx hb hr (fun t ht hW => ⟨⟨_, (o, ad), rfl, hJ, by rw [ht]; exact hP, va_K.moved hW.alike hK, hD⟩, hS.F ht⟩) hS.2.2 dX7_drive_19
    · skip
      refine lv_iconst (v := (1 : Int32)) hx hb dX7_drive_9 (by decide) ?_
      refine lv_lload_n hx hb dX7_drive_10 rfl (lv_at hl 2 rfl) ?_
      refine vp_callSi (W.runS (As := [.int (1 : Int32), .long a2]) (rest := []) ⟨hx, hb, hml, hown, hts⟩ (qX4_isFit l (1 : Int32) a2) (va_cwS 2 hts gX7_drive_X4_isFit rfl rfl rfl (by decide +kernel) ⟨Nat.le_of_ble_eq_true rfl, Nat.le_of_ble_eq_true rfl⟩) ⟨fun _ _ _ _ q => q, fun U hU hW => rfl⟩ rfl rfl hl.1 rfl (lv_room (Nat.le_of_ble_eq_true rfl)) dX7_drive_11 ⟨Nat.le_of_ble_eq_true rfl, Nat.le_of_ble_eq_true rfl⟩) (fun r hq9 => ?_)
      rw [hq9]
      refine lv_if_ne (tgt := 20) hx hb dX7_drive_14 (by decide) (fun c3 => ?_) (fun c3 => ?_)
      · skip
        refine lv_aload_n hx hb dX7_drive_20 rfl (lv_at hl 0 rfl) ?_
        refine va_get (D := (dC, dI)) (ci := 5) (v := .int (nI (c_nv o))) (C := RX7) (T := TX7) (N := 10) (fs := (cx_f ad o)) hx hb hts hi_wsX70 hown hK hP 0 (wx_h (o := o) rfl) rfl 3 (by decide) (hts (.fieldLink RX7 25 "OrreryDials" "driveCount" "I") (by decide +kernel)) (fun _ h9 => h9) rfl dX7_drive_21 ?_
        refine lv_bipush (v := (20 : Int32)) hx hb dX7_drive_24 (by decide) ?_
        refine lv_icmp_lt (tgt := 32) hx hb dX7_drive_26 (by decide) (fun c4 => ?_) (fun c4 => ?_)
        · skip
          have hJ : (nI (c_nv o), gV o a1.toNatClampNeg a2) = jX7_drive o a1 a2 := by unfold jX7_drive; rw [if_neg c1, if_neg c2, if_neg c3, if_pos c4]
          have hn2 : c_nv o < 20 := by
            have := Int32.lt_iff_toInt_lt.mp c4
            rw [nI_toInt (by omega)] at this
            have e20 : (20 : Int32).toInt = 20 := rfl
            omega
          refine lv_aload_n hx hb dX7_drive_32 rfl (lv_at hl 0 rfl) ?_
          refine va_get (D := (dC, dI)) (ci := 5) (v := .ref (ad 2)) (C := RX7) (T := TX7) (N := 10) (fs := (cx_f ad o)) hx hb hts hi_wsX70 hown hK hP 0 (wx_h (o := o) rfl) rfl 2 (by decide) (hts (.fieldLink RX7 21 "OrreryDials" "drives" "[LOrreryDials$Drive;") (by decide +kernel)) (fun _ h9 => h9) rfl dX7_drive_33 ?_
          refine lv_aload_n hx hb dX7_drive_36 rfl (lv_at hl 0 rfl) ?_
          refine va_get (D := (dC, dI)) (ci := 5) (v := .int (nI (c_nv o))) (C := RX7) (T := TX7) (N := 10) (fs := (cx_f ad o)) hx hb hts hi_wsX70 hown hK hP 0 (wx_h (o := o) rfl) rfl 3 (by decide) (hts (.fieldLink RX7 25 "OrreryDials" "driveCount" "I") (by decide +kernel)) (fun _ h9 => h9) rfl dX7_drive_37 ?_
          refine lv_iload_n hx hb dX7_drive_40 rfl (lv_at hl 1 rfl) ?_
          refine lv_aload_n hx hb dX7_drive_41 rfl (lv_at hl 0 rfl) ?_
          refine va_get (D := (dC, dI)) (ci := 5) (v := .int (nI (c_nv o))) (C := RX7) (T := TX7) (N := 10) (fs := (cx_f ad o)) hx hb hts hi_wsX70 hown hK hP 0 (wx_h (o := o) rfl) rfl 3 (by decide) (hts (.fieldLink RX7 25 "OrreryDials" "driveCount" "I") (by decide +kernel)) (fun _ h9 => h9) rfl dX7_drive_42 ?_
          refine lv_lload_n hx hb dX7_drive_45 rfl (lv_at hl 2 rfl) ?_
          refine cl_new (va_runS (As := [.int a1, .int (nI (c_nv o)), .long a2]) (rest := [.int (nI (c_nv o)), .ref (ad 2)]) ⟨hx, hb, hml, hown, hts⟩ (qX7_newDrive l dC dI cy H.size a1 (nI (c_nv o)) a2) (va_cwS 3 hts gX7_drive_X7_newDrive rfl rfl rfl (by decide +kernel) ⟨Nat.le_of_ble_eq_true rfl, Nat.le_of_ble_eq_true rfl⟩) (pS (A := A) hK em_P em_D hk) rfl rfl hl.1 rfl (lv_room (Nat.le_of_ble_eq_true rfl)) dX7_drive_46 ⟨Nat.le_of_ble_eq_true rfl, Nat.le_of_ble_eq_true rfl⟩) hP hD hS hA (fun q H locs hP hD hS => ?_)
          obtain ⟨ci, vs, r, e1, e2, e3⟩ := nw_c hk a1 (nI (c_nv o)) a2
          refine va_astqO hx hb hK hP hD hS 2 6 (WX cy x ad o).length ci (E := RX2) (r := r) (vs := vs) (ap_getl (wx_h (o := o) rfl)) rfl e3 (by rw [e1]; exact w_last) e2 (nI_in hn2 (by decide)) dX7_drive_49 (fun H locs hP hD hS => ?_)
          rw [nI_clamp (by omega)] at hP hD
          refine lv_aload_n hx hb dX7_drive_50 rfl (lv_at hl 0 rfl) ?_
          refine lv_dup hx hb dX7_drive_51 rfl ?_
          refine va_get (D := (dC, dI)) (ci := 5) (v := .int (nI (c_nv o))) (C := RX7) (T := TX7) (N := 10) (fs := (cx_f ad o)) hx hb hts hi_wsX70 hown hK hP 0 (rfl) rfl 3 (by decide) (hts (.fieldLink RX7 25 "OrreryDials" "driveCount" "I") (by decide +kernel)) (fun _ h9 => h9) rfl dX7_drive_52 ?_
          refine lv_dup_x1 hx hb dX7_drive_55 rfl rfl ?_
          refine lv_iconst (v := (1 : Int32)) hx hb dX7_drive_56 (by decide) ?_
          refine lv_iadd hx hb dX7_drive_57 ?_
          rw [show nI (c_nv o) + (1 : Int32) = nI (c_nv o + 1) from nI_1 _]
          refine va_put (D := (dC, dI)) (ci := 5) (v := .int (nI (c_nv o + 1))) (ty := .int) (C := RX7) (T := TX7) (N := 10) (fs := (cx_f ad o)) hx hb hts hi_wsX70 tyX7 tyX7_ok nmX7 hown hK hP hD hS 0 rfl rfl 3 (by decide) (hts (.fieldLink RX7 25 "OrreryDials" "driveCount" "I") (by decide +kernel)) (fun _ h9 => h9) rfl (by decide +kernel) rfl rfl (Nat.le_of_ble_eq_true rfl) dX7_drive_58 (fun H locs hP hD hS => ?_)
          obtain ⟨hP, hD⟩ := wx_g_drive (cy := cy) (x := x) (ad := ad) hnd q a1 a2 c1 hn2 hs hh hP hD
          refine W.widen (k := 1) (n := 4) (Nat.le_of_ble_eq_true rfl) (Nat.le_of_ble_eq_true rfl) ?_
          exact W.iret hx hb hr (fun t ht hW => ⟨⟨_, (gV o a1.toNatClampNeg a2, va_up ad (200 + c_nv o) q), rfl, hJ, by rw [ht]; exact hP, va_K.moved hW.alike hK, hD⟩, hS.F ht⟩) hS.2.2 dX7_drive_61
        · skip
          have hJ : ((-103 : Int32), o) = jX7_drive o a1 a2 := by unfold jX7_drive; rw [if_neg c1, if_neg c2, if_neg c3, if_neg c4]
          refine lv_bipush (v := (-103 : Int32)) hx hb dX7_drive_29 (by decide) ?_
          refine W.widen (k := 1) (n := 4) (Nat.le_of_ble_eq_true rfl) (Nat.le_of_ble_eq_true rfl) ?_
          exact W.iret hx hb hr (fun t ht hW => ⟨⟨_, (o, ad), rfl, hJ, by rw [ht]; exact hP, va_K.moved hW.alike hK, hD⟩, hS.F ht⟩) hS.2.2 dX7_drive_31
      · skip
        have hJ : ((-102 : Int32), o) = jX7_drive o a1 a2 := by unfold jX7_drive; rw [if_neg c1, if_neg c2, if_pos c3]
        refine lv_bipush (v := (-102 : Int32)) hx hb dX7_drive_17 (by decide) ?_
        refine W.widen (k := 1) (n := 4) (Nat.le_of_ble_eq_true rfl) (Nat.le_of_ble_eq_true rfl) ?_
        exact W.iret hx hb hr (fun t ht hW => ⟨⟨_, (o, ad), rfl, hJ, by rw [ht]; exact hP, va_K.moved hW.alike hK, hD⟩, hS.F ht⟩) hS.2.2 dX7_drive_19
