def jX5_renew_o32 (o : Os) (i : Nat) (a1 : Int32) (o4 : Os) (o8 : Os) (o12 : Os) (o16 : Os) (o20 : Os) (o24 : Os) (o28 : Os) (o32 : Os) : Os := (t_rS o32 (va_up (c_rS o32) i a1))
def sX5_renew_o32 (o : Os) (i : Nat) (a1 : Int32) (o4 : Os) (o8 : Os) (o12 : Os) (o16 : Os) (o20 : Os) (o24 : Os) (o28 : Os) (o32 : Os) : Prop := True ∧ (i < 16 ∧ True)
def jX5_renew_o28 (o : Os) (i : Nat) (a1 : Int32) (o4 : Os) (o8 : Os) (o12 : Os) (o16 : Os) (o20 : Os) (o24 : Os) (o28 : Os) : Os := (jX5_renew_o32 o i a1 o4 o8 o12 o16 o20 o24 o28 (t_rP (t_rP o28 (va_up (c_rP o28) i (vp_updL (c_rP o28 i) (14 : Int32).toNatClampNeg (0 : Int64)))) (va_up (c_rP (t_rP o28 (va_up (c_rP o28) i (vp_updL (c_rP o28 i) (14 : Int32).toNatClampNeg (0 : Int64))))) i (vp_updL (c_rP (t_rP o28 (va_up (c_rP o28) i (vp_updL (c_rP o28 i) (14 : Int32).toNatClampNeg (0 : Int64)))) i) (15 : Int32).toNatClampNeg (0 : Int64)))))
def sX5_renew_o28 (o : Os) (i : Nat) (a1 : Int32) (o4 : Os) (o8 : Os) (o12 : Os) (o16 : Os) (o20 : Os) (o24 : Os) (o28 : Os) : Prop := True ∧ (i < 16 ∧ (vp_in (14 : Int32) 16 ∧ (vp_in (15 : Int32) 16 ∧ (sX5_renew_o32 o i a1 o4 o8 o12 o16 o20 o24 o28 (t_rP (t_rP o28 (va_up (c_rP o28) i (vp_updL (c_rP o28 i) (14 : Int32).toNatClampNeg (0 : Int64)))) (va_up (c_rP (t_rP o28 (va_up (c_rP o28) i (vp_updL (c_rP o28 i) (14 : Int32).toNatClampNeg (0 : Int64))))) i (vp_updL (c_rP (t_rP o28 (va_up (c_rP o28) i (vp_updL (c_rP o28 i) (14 : Int32).toNatClampNeg (0 : Int64)))) i) (15 : Int32).toNatClampNeg (0 : Int64))))))))
def jX5_renew_o24 (o : Os) (i : Nat) (a1 : Int32) (o4 : Os) (o8 : Os) (o12 : Os) (o16 : Os) (o20 : Os) (o24 : Os) : Os := (jX5_renew_o28 o i a1 o4 o8 o12 o16 o20 o24 (t_rP (t_rP o24 (va_up (c_rP o24) i (vp_updL (c_rP o24 i) (12 : Int32).toNatClampNeg (0 : Int64)))) (va_up (c_rP (t_rP o24 (va_up (c_rP o24) i (vp_updL (c_rP o24 i) (12 : Int32).toNatClampNeg (0 : Int64))))) i (vp_updL (c_rP (t_rP o24 (va_up (c_rP o24) i (vp_updL (c_rP o24 i) (12 : Int32).toNatClampNeg (0 : Int64)))) i) (13 : Int32).toNatClampNeg (0 : Int64)))))
def sX5_renew_o24 (o : Os) (i : Nat) (a1 : Int32) (o4 : Os) (o8 : Os) (o12 : Os) (o16 : Os) (o20 : Os) (o24 : Os) : Prop := True ∧ (i < 16 ∧ (vp_in (12 : Int32) 16 ∧ (vp_in (13 : Int32) 16 ∧ (sX5_renew_o28 o i a1 o4 o8 o12 o16 o20 o24 (t_rP (t_rP o24 (va_up (c_rP o24) i (vp_updL (c_rP o24 i) (12 : Int32).toNatClampNeg (0 : Int64)))) (va_up (c_rP (t_rP o24 (va_up (c_rP o24) i (vp_updL (c_rP o24 i) (12 : Int32).toNatClampNeg (0 : Int64))))) i (vp_updL (c_rP (t_rP o24 (va_up (c_rP o24) i (vp_updL (c_rP o24 i) (12 : Int32).toNatClampNeg (0 : Int64)))) i) (13 : Int32).toNatClampNeg (0 : Int64))))))))
def jX5_renew_o20 (o : Os) (i : Nat) (a1 : Int32) (o4 : Os) (o8 : Os) (o12 : Os) (o16 : Os) (o20 : Os) : Os := (jX5_renew_o24 o i a1 o4 o8 o12 o16 o20 (t_rP (t_rP o20 (va_up (c_rP o20) i (vp_updL (c_rP o20 i) (10 : Int32).toNatClampNeg (0 : Int64)))) (va_up (c_rP (t_rP o20 (va_up (c_rP o20) i (vp_updL (c_rP o20 i) (10 : Int32).toNatClampNeg (0 : Int64))))) i (vp_updL (c_rP (t_rP o20 (va_up (c_rP o20) i (vp_updL (c_rP o20 i) (10 : Int32).toNatClampNeg (0 : Int64)))) i) (11 : Int32).toNatClampNeg (0 : Int64)))))
def sX5_renew_o20 (o : Os) (i : Nat) (a1 : Int32) (o4 : Os) (o8 : Os) (o12 : Os) (o16 : Os) (o20 : Os) : Prop := True ∧ (i < 16 ∧ (vp_in (10 : Int32) 16 ∧ (vp_in (11 : Int32) 16 ∧ (sX5_renew_o24 o i a1 o4 o8 o12 o16 o20 (t_rP (t_rP o20 (va_up (c_rP o20) i (vp_updL (c_rP o20 i) (10 : Int32).toNatClampNeg (0 : Int64)))) (va_up (c_rP (t_rP o20 (va_up (c_rP o20) i (vp_updL (c_rP o20 i) (10 : Int32).toNatClampNeg (0 : Int64))))) i (vp_updL (c_rP (t_rP o20 (va_up (c_rP o20) i (vp_updL (c_rP o20 i) (10 : Int32).toNatClampNeg (0 : Int64)))) i) (11 : Int32).toNatClampNeg (0 : Int64))))))))
def jX5_renew_o16 (o : Os) (i : Nat) (a1 : Int32) (o4 : Os) (o8 : Os) (o12 : Os) (o16 : Os) : Os := (jX5_renew_o20 o i a1 o4 o8 o12 o16 (t_rP (t_rP o16 (va_up (c_rP o16) i (vp_updL (c_rP o16 i) (8 : Int32).toNatClampNeg (0 : Int64)))) (va_up (c_rP (t_rP o16 (va_up (c_rP o16) i (vp_updL (c_rP o16 i) (8 : Int32).toNatClampNeg (0 : Int64))))) i (vp_updL (c_rP (t_rP o16 (va_up (c_rP o16) i (vp_updL (c_rP o16 i) (8 : Int32).toNatClampNeg (0 : Int64)))) i) (9 : Int32).toNatClampNeg (0 : Int64)))))
def sX5_renew_o16 (o : Os) (i : Nat) (a1 : Int32) (o4 : Os) (o8 : Os) (o12 : Os) (o16 : Os) : Prop := True ∧ (i < 16 ∧ (vp_in (8 : Int32) 16 ∧ (vp_in (9 : Int32) 16 ∧ (sX5_renew_o20 o i a1 o4 o8 o12 o16 (t_rP (t_rP o16 (va_up (c_rP o16) i (vp_updL (c_rP o16 i) (8 : Int32).toNatClampNeg (0 : Int64)))) (va_up (c_rP (t_rP o16 (va_up (c_rP o16) i (vp_updL (c_rP o16 i) (8 : Int32).toNatClampNeg (0 : Int64))))) i (vp_updL (c_rP (t_rP o16 (va_up (c_rP o16) i (vp_updL (c_rP o16 i) (8 : Int32).toNatClampNeg (0 : Int64)))) i) (9 : Int32).toNatClampNeg (0 : Int64))))))))
def jX5_renew_o12 (o : Os) (i : Nat) (a1 : Int32) (o4 : Os) (o8 : Os) (o12 : Os) : Os := (jX5_renew_o16 o i a1 o4 o8 o12 (t_rP (t_rP o12 (va_up (c_rP o12) i (vp_updL (c_rP o12 i) (6 : Int32).toNatClampNeg (0 : Int64)))) (va_up (c_rP (t_rP o12 (va_up (c_rP o12) i (vp_updL (c_rP o12 i) (6 : Int32).toNatClampNeg (0 : Int64))))) i (vp_updL (c_rP (t_rP o12 (va_up (c_rP o12) i (vp_updL (c_rP o12 i) (6 : Int32).toNatClampNeg (0 : Int64)))) i) (7 : Int32).toNatClampNeg (0 : Int64)))))
def sX5_renew_o12 (o : Os) (i : Nat) (a1 : Int32) (o4 : Os) (o8 : Os) (o12 : Os) : Prop := True ∧ (i < 16 ∧ (vp_in (6 : Int32) 16 ∧ (vp_in (7 : Int32) 16 ∧ (sX5_renew_o16 o i a1 o4 o8 o12 (t_rP (t_rP o12 (va_up (c_rP o12) i (vp_updL (c_rP o12 i) (6 : Int32).toNatClampNeg (0 : Int64)))) (va_up (c_rP (t_rP o12 (va_up (c_rP o12) i (vp_updL (c_rP o12 i) (6 : Int32).toNatClampNeg (0 : Int64))))) i (vp_updL (c_rP (t_rP o12 (va_up (c_rP o12) i (vp_updL (c_rP o12 i) (6 : Int32).toNatClampNeg (0 : Int64)))) i) (7 : Int32).toNatClampNeg (0 : Int64))))))))
def jX5_renew_o8 (o : Os) (i : Nat) (a1 : Int32) (o4 : Os) (o8 : Os) : Os := (jX5_renew_o12 o i a1 o4 o8 (t_rP (t_rP o8 (va_up (c_rP o8) i (vp_updL (c_rP o8 i) (4 : Int32).toNatClampNeg (0 : Int64)))) (va_up (c_rP (t_rP o8 (va_up (c_rP o8) i (vp_updL (c_rP o8 i) (4 : Int32).toNatClampNeg (0 : Int64))))) i (vp_updL (c_rP (t_rP o8 (va_up (c_rP o8) i (vp_updL (c_rP o8 i) (4 : Int32).toNatClampNeg (0 : Int64)))) i) (5 : Int32).toNatClampNeg (0 : Int64)))))
def sX5_renew_o8 (o : Os) (i : Nat) (a1 : Int32) (o4 : Os) (o8 : Os) : Prop := True ∧ (i < 16 ∧ (vp_in (4 : Int32) 16 ∧ (vp_in (5 : Int32) 16 ∧ (sX5_renew_o12 o i a1 o4 o8 (t_rP (t_rP o8 (va_up (c_rP o8) i (vp_updL (c_rP o8 i) (4 : Int32).toNatClampNeg (0 : Int64)))) (va_up (c_rP (t_rP o8 (va_up (c_rP o8) i (vp_updL (c_rP o8 i) (4 : Int32).toNatClampNeg (0 : Int64))))) i (vp_updL (c_rP (t_rP o8 (va_up (c_rP o8) i (vp_updL (c_rP o8 i) (4 : Int32).toNatClampNeg (0 : Int64)))) i) (5 : Int32).toNatClampNeg (0 : Int64))))))))
def jX5_renew_o4 (o : Os) (i : Nat) (a1 : Int32) (o4 : Os) : Os := (jX5_renew_o8 o i a1 o4 (t_rP (t_rP o4 (va_up (c_rP o4) i (vp_updL (c_rP o4 i) (2 : Int32).toNatClampNeg (0 : Int64)))) (va_up (c_rP (t_rP o4 (va_up (c_rP o4) i (vp_updL (c_rP o4 i) (2 : Int32).toNatClampNeg (0 : Int64))))) i (vp_updL (c_rP (t_rP o4 (va_up (c_rP o4) i (vp_updL (c_rP o4 i) (2 : Int32).toNatClampNeg (0 : Int64)))) i) (3 : Int32).toNatClampNeg (0 : Int64)))))
def sX5_renew_o4 (o : Os) (i : Nat) (a1 : Int32) (o4 : Os) : Prop := True ∧ (i < 16 ∧ (vp_in (2 : Int32) 16 ∧ (vp_in (3 : Int32) 16 ∧ (sX5_renew_o8 o i a1 o4 (t_rP (t_rP o4 (va_up (c_rP o4) i (vp_updL (c_rP o4 i) (2 : Int32).toNatClampNeg (0 : Int64)))) (va_up (c_rP (t_rP o4 (va_up (c_rP o4) i (vp_updL (c_rP o4 i) (2 : Int32).toNatClampNeg (0 : Int64))))) i (vp_updL (c_rP (t_rP o4 (va_up (c_rP o4) i (vp_updL (c_rP o4 i) (2 : Int32).toNatClampNeg (0 : Int64)))) i) (3 : Int32).toNatClampNeg (0 : Int64))))))))
def jX5_renew (o : Os) (i : Nat) (a1 : Int32) : Os := (jX5_renew_o4 o i a1 (t_rP (t_rP o (va_up (c_rP o) i (vp_updL (c_rP o i) (0 : Int32).toNatClampNeg (0 : Int64)))) (va_up (c_rP (t_rP o (va_up (c_rP o) i (vp_updL (c_rP o i) (0 : Int32).toNatClampNeg (0 : Int64))))) i (vp_updL (c_rP (t_rP o (va_up (c_rP o) i (vp_updL (c_rP o i) (0 : Int32).toNatClampNeg (0 : Int64)))) i) (1 : Int32).toNatClampNeg (0 : Int64)))))
def sX5_renew (o : Os) (i : Nat) (a1 : Int32) : Prop := True ∧ (i < 16 ∧ (vp_in (0 : Int32) 16 ∧ (vp_in (1 : Int32) 16 ∧ (sX5_renew_o4 o i a1 (t_rP (t_rP o (va_up (c_rP o) i (vp_updL (c_rP o i) (0 : Int32).toNatClampNeg (0 : Int64)))) (va_up (c_rP (t_rP o (va_up (c_rP o) i (vp_updL (c_rP o i) (0 : Int32).toNatClampNeg (0 : Int64))))) i (vp_updL (c_rP (t_rP o (va_up (c_rP o) i (vp_updL (c_rP o i) (0 : Int32).toNatClampNeg (0 : Int64)))) i) (1 : Int32).toNatClampNeg (0 : Int64))))))))
set_option linter.constructorNameAsVariable false in
set_option maxHeartbeats 8000000 in
set_option maxRecDepth 100000 in
theorem qX5_renew (l : Launch) (dC : Nat → ClassId) (dI : Nat → Nat → Nat) (cy : Nat → ClassId) (x : Nat) (ad : Nat → Nat) (sz : Nat) (o : Os) (i : Nat) (a1 : Int32) (hV : sX5_renew o i a1) : Met l yX5_renew wsX5_renew ({ frames := 0, cells := 0, slots := 0, locals := 0 }) (va_Pc [.ref (ad (300 + i)), .int a1] (wI (dC, dI) (tyA cy) (WX cy x ad o) sz)) (va_Qv (fun u => u = jX5_renew o i a1) (fun u t => wO (dC, dI) (tyA cy) (va_A (WX cy x ad o) sz) (WX cy x ad u) t) (va_A (WX cy x ad o) sz)) 0 0 (va_A (WX cy x ad o) sz) := by
  refine Met.ofW (cc := cX5_renew) (maxL := 3) (ret := none) (by decide) rfl ?_
  intro p e s m args below meth c s₁ B hml hv
  obtain ⟨rfl, hsz, hP, hK, hD0, hk⟩ := hv
  have hx := B.exec
  have hb := B.bytes
  have hr := B.returns
  have hts := atoms_spec (ws := wsX5_renew) B.pre
  have hown : s.vm.findClass RX5 = some m.cls := findClass_of_methodNamed B.named
  have hlocks := B.notSynchronized
  subst hsz
  have hD := hD0.self (sz := s.heap.size)
  generalize hAe : va_A (WX cy x ad o) s.heap.size = A at hD ⊢
  have hA : ∀ q : Nat, s.heap.size ≤ q → A q := fun q h => by rw [← hAe]; exact Or.inr h
  obtain ⟨H, hHe⟩ : ∃ H, s.heap = H := ⟨_, rfl⟩
  have hP : va_P (dC, dI) vwCl (WX cy x ad o) H := by rw [← hHe]; exact hP
  have hS : va_S A s.heap H [] := by rw [← hHe]; exact va_S.rf
  rw [w_heap hHe]
  have hi_wsX50 : ∀ w ∈ wsX50, w ∈ wsX5_renew := fun _ h => List.mem_cons_of_mem _ (List.mem_append_right _ h)
  obtain ⟨JR, hE⟩ : ∃ q, jX5_renew o i a1 = q := ⟨_, rfl⟩
  have hJ := hE
  rw [jX5_renew] at hJ
  rw [sX5_renew] at hV
  have hV := hV.2
  have hl := lv_entry ([.ref (ad (300 + i)), .int a1]) (n := 3) (Nat.le_of_ble_eq_true rfl)
  rw [lg_entry_eq]
  generalize (lg_sl ([.ref (ad (300 + i)), .int a1]) ++ List.replicate (3 - (lg_sl ([.ref (ad (300 + i)), .int a1])).length) Slot.unset).toArray = ls at hl ⊢
  have hl : lv_has ls 3 [(0, .ref (ad (300 + i))), (1, .int a1)] := hl
  refine lv_iconst (v := (0 : Int32)) hx hb dX5_renew_0 (by decide) ?_
  refine lv_istore_n (lv' := [(2, .int (0 : Int32)), (0, .ref (ad (300 + i))), (1, .int a1)]) hx hb dX5_renew_1 rfl hl (by decide) rfl (fun ls hl => ?_)
  refine lv_iload_n hx hb dX5_renew_2 rfl (lv_at hl 0 rfl) ?_
  refine lv_aload_n hx hb dX5_renew_3 rfl (lv_at hl 1 rfl) ?_
  obtain ⟨hk1, hV⟩ := hV
  refine va_get (D := (dC, dI)) (ci := 3) (v := .ref (ad (400 + i))) (C := RX5) (T := TX5) (N := 2) (fs := (cx_row ad o i)) hx hb hts hi_wsX50 hown hK hP (7 + (c_nd o + (c_nv o + i))) (wx_row (o := o) hk1) rfl 0 (by decide) (hts (.fieldLink RX5 9 "OrreryDials$Row" "places" "[J") (by decide +kernel)) (fun _ h9 => h9) rfl dX5_renew_4 ?_
  refine va_alen (v := (16 : Int32)) hx hb hK hP (7 + (c_nd o + (c_nv o + (16 + i)))) 1 (wx_arr (o := o) hk1) rfl rfl dX5_renew_7 ?_
  refine lv_icmp_ge (tgt := 24) hx hb dX5_renew_8 (by decide) (fun cq => absurd cq (by decide)) (fun cq => ?_)
  refine lv_aload_n hx hb dX5_renew_11 rfl (lv_at hl 1 rfl) ?_
  refine va_get (D := (dC, dI)) (ci := 3) (v := .ref (ad (400 + i))) (C := RX5) (T := TX5) (N := 2) (fs := (cx_row ad o i)) hx hb hts hi_wsX50 hown hK hP (7 + (c_nd o + (c_nv o + i))) (wx_row (o := o) hk1) rfl 0 (by decide) (hts (.fieldLink RX5 9 "OrreryDials$Row" "places" "[J") (by decide +kernel)) (fun _ h9 => h9) rfl dX5_renew_12 ?_
  refine lv_iload_n hx hb dX5_renew_15 rfl (lv_at hl 0 rfl) ?_
  refine lv_lconst (v := (0 : Int64)) hx hb dX5_renew_16 (by decide) ?_
  obtain ⟨hk2, hV⟩ := hV
  refine va_last hx hb hK hP hD hS (7 + (c_nd o + (c_nv o + (16 + i)))) 1 (wx_arr (o := o) hk1) rfl hk2 dX5_renew_17 (fun H locs hP hD hS => ?_)
  rw [wx_a_rP (o := o) hk1] at hP hD
  refine lv_iinc (v := (1 : Int32)) (lv' := [(2, .int (1 : Int32)), (0, .ref (ad (300 + i))), (1, .int a1)]) hx hb dX5_renew_18 hl (k := 0) rfl (by first | rfl | decide) (by decide) rfl (fun ls hl => ?_)
  refine lv_goto (tgt := 2) hx hb dX5_renew_21 (by decide) ?_
  refine lv_iload_n hx hb dX5_renew_2 rfl (lv_at hl 0 rfl) ?_
  refine lv_aload_n hx hb dX5_renew_3 rfl (lv_at hl 1 rfl) ?_
  refine va_get (D := (dC, dI)) (ci := 3) (v := .ref (ad (400 + i))) (C := RX5) (T := TX5) (N := 2) (fs := (cx_row ad (t_rP o (va_up (c_rP o) i (vp_updL (c_rP o i) (0 : Int32).toNatClampNeg (0 : Int64)))) i)) hx hb hts hi_wsX50 hown hK hP (7 + (c_nd (t_rP o (va_up (c_rP o) i (vp_updL (c_rP o i) (0 : Int32).toNatClampNeg (0 : Int64)))) + (c_nv (t_rP o (va_up (c_rP o) i (vp_updL (c_rP o i) (0 : Int32).toNatClampNeg (0 : Int64)))) + i))) (wx_row (o := (t_rP o (va_up (c_rP o) i (vp_updL (c_rP o i) (0 : Int32).toNatClampNeg (0 : Int64))))) hk1) rfl 0 (by decide) (hts (.fieldLink RX5 9 "OrreryDials$Row" "places" "[J") (by decide +kernel)) (fun _ h9 => h9) rfl dX5_renew_4 ?_
  refine va_alen (v := (16 : Int32)) hx hb hK hP (7 + (c_nd (t_rP o (va_up (c_rP o) i (vp_updL (c_rP o i) (0 : Int32).toNatClampNeg (0 : Int64)))) + (c_nv (t_rP o (va_up (c_rP o) i (vp_updL (c_rP o i) (0 : Int32).toNatClampNeg (0 : Int64)))) + (16 + i)))) 1 (wx_arr (o := (t_rP o (va_up (c_rP o) i (vp_updL (c_rP o i) (0 : Int32).toNatClampNeg (0 : Int64))))) hk1) rfl rfl dX5_renew_7 ?_
  refine lv_icmp_ge (tgt := 24) hx hb dX5_renew_8 (by decide) (fun cq => absurd cq (by decide)) (fun cq => ?_)
  refine lv_aload_n hx hb dX5_renew_11 rfl (lv_at hl 1 rfl) ?_
  refine va_get (D := (dC, dI)) (ci := 3) (v := .ref (ad (400 + i))) (C := RX5) (T := TX5) (N := 2) (fs := (cx_row ad (t_rP o (va_up (c_rP o) i (vp_updL (c_rP o i) (0 : Int32).toNatClampNeg (0 : Int64)))) i)) hx hb hts hi_wsX50 hown hK hP (7 + (c_nd (t_rP o (va_up (c_rP o) i (vp_updL (c_rP o i) (0 : Int32).toNatClampNeg (0 : Int64)))) + (c_nv (t_rP o (va_up (c_rP o) i (vp_updL (c_rP o i) (0 : Int32).toNatClampNeg (0 : Int64)))) + i))) (wx_row (o := (t_rP o (va_up (c_rP o) i (vp_updL (c_rP o i) (0 : Int32).toNatClampNeg (0 : Int64))))) hk1) rfl 0 (by decide) (hts (.fieldLink RX5 9 "OrreryDials$Row" "places" "[J") (by decide +kernel)) (fun _ h9 => h9) rfl dX5_renew_12 ?_
  refine lv_iload_n hx hb dX5_renew_15 rfl (lv_at hl 0 rfl) ?_
  refine lv_lconst (v := (0 : Int64)) hx hb dX5_renew_16 (by decide) ?_
  obtain ⟨hk3, hV⟩ := hV
  refine va_last hx hb hK hP hD hS (7 + (c_nd (t_rP o (va_up (c_rP o) i (vp_updL (c_rP o i) (0 : Int32).toNatClampNeg (0 : Int64)))) + (c_nv (t_rP o (va_up (c_rP o) i (vp_updL (c_rP o i) (0 : Int32).toNatClampNeg (0 : Int64)))) + (16 + i)))) 1 (wx_arr (o := (t_rP o (va_up (c_rP o) i (vp_updL (c_rP o i) (0 : Int32).toNatClampNeg (0 : Int64))))) hk1) rfl hk3 dX5_renew_17 (fun H locs hP hD hS => ?_)
  rw [wx_a_rP (o := (t_rP o (va_up (c_rP o) i (vp_updL (c_rP o i) (0 : Int32).toNatClampNeg (0 : Int64))))) hk1] at hP hD
  obtain ⟨o4, eo4⟩ : ∃ z, z = (t_rP (t_rP o (va_up (c_rP o) i (vp_updL (c_rP o i) (0 : Int32).toNatClampNeg (0 : Int64)))) (va_up (c_rP (t_rP o (va_up (c_rP o) i (vp_updL (c_rP o i) (0 : Int32).toNatClampNeg (0 : Int64))))) i (vp_updL (c_rP (t_rP o (va_up (c_rP o) i (vp_updL (c_rP o i) (0 : Int32).toNatClampNeg (0 : Int64)))) i) (1 : Int32).toNatClampNeg (0 : Int64)))) := ⟨_, rfl⟩
  rw [← eo4] at hP hD hJ hV
  rw [jX5_renew_o4] at hJ
  rw [sX5_renew_o4] at hV
  have hV := hV.2
  refine lv_iinc (v := (2 : Int32)) (lv' := [(2, .int (2 : Int32)), (0, .ref (ad (300 + i))), (1, .int a1)]) hx hb dX5_renew_18 hl (k := 0) rfl (by first | rfl | decide) (by decide) rfl (fun ls hl => ?_)
  refine lv_goto (tgt := 2) hx hb dX5_renew_21 (by decide) ?_
  refine lv_iload_n hx hb dX5_renew_2 rfl (lv_at hl 0 rfl) ?_
  refine lv_aload_n hx hb dX5_renew_3 rfl (lv_at hl 1 rfl) ?_
  obtain ⟨hk5, hV⟩ := hV
  refine va_get (D := (dC, dI)) (ci := 3) (v := .ref (ad (400 + i))) (C := RX5) (T := TX5) (N := 2) (fs := (cx_row ad o4 i)) hx hb hts hi_wsX50 hown hK hP (7 + (c_nd o4 + (c_nv o4 + i))) (wx_row (o := o4) hk5) rfl 0 (by decide) (hts (.fieldLink RX5 9 "OrreryDials$Row" "places" "[J") (by decide +kernel)) (fun _ h9 => h9) rfl dX5_renew_4 ?_
  refine va_alen (v := (16 : Int32)) hx hb hK hP (7 + (c_nd o4 + (c_nv o4 + (16 + i)))) 1 (wx_arr (o := o4) hk5) rfl rfl dX5_renew_7 ?_
  refine lv_icmp_ge (tgt := 24) hx hb dX5_renew_8 (by decide) (fun cq => absurd cq (by decide)) (fun cq => ?_)
  refine lv_aload_n hx hb dX5_renew_11 rfl (lv_at hl 1 rfl) ?_
  refine va_get (D := (dC, dI)) (ci := 3) (v := .ref (ad (400 + i))) (C := RX5) (T := TX5) (N := 2) (fs := (cx_row ad o4 i)) hx hb hts hi_wsX50 hown hK hP (7 + (c_nd o4 + (c_nv o4 + i))) (wx_row (o := o4) hk5) rfl 0 (by decide) (hts (.fieldLink RX5 9 "OrreryDials$Row" "places" "[J") (by decide +kernel)) (fun _ h9 => h9) rfl dX5_renew_12 ?_
  refine lv_iload_n hx hb dX5_renew_15 rfl (lv_at hl 0 rfl) ?_
  refine lv_lconst (v := (0 : Int64)) hx hb dX5_renew_16 (by decide) ?_
  obtain ⟨hk6, hV⟩ := hV
  refine va_last hx hb hK hP hD hS (7 + (c_nd o4 + (c_nv o4 + (16 + i)))) 1 (wx_arr (o := o4) hk5) rfl hk6 dX5_renew_17 (fun H locs hP hD hS => ?_)
  rw [wx_a_rP (o := o4) hk5] at hP hD
  refine lv_iinc (v := (3 : Int32)) (lv' := [(2, .int (3 : Int32)), (0, .ref (ad (300 + i))), (1, .int a1)]) hx hb dX5_renew_18 hl (k := 0) rfl (by first | rfl | decide) (by decide) rfl (fun ls hl => ?_)
  refine lv_goto (tgt := 2) hx hb dX5_renew_21 (by decide) ?_
  refine lv_iload_n hx hb dX5_renew_2 rfl (lv_at hl 0 rfl) ?_
  refine lv_aload_n hx hb dX5_renew_3 rfl (lv_at hl 1 rfl) ?_
  refine va_get (D := (dC, dI)) (ci := 3) (v := .ref (ad (400 + i))) (C := RX5) (T := TX5) (N := 2) (fs := (cx_row ad (t_rP o4 (va_up (c_rP o4) i (vp_updL (c_rP o4 i) (2 : Int32).toNatClampNeg (0 : Int64)))) i)) hx hb hts hi_wsX50 hown hK hP (7 + (c_nd (t_rP o4 (va_up (c_rP o4) i (vp_updL (c_rP o4 i) (2 : Int32).toNatClampNeg (0 : Int64)))) + (c_nv (t_rP o4 (va_up (c_rP o4) i (vp_updL (c_rP o4 i) (2 : Int32).toNatClampNeg (0 : Int64)))) + i))) (wx_row (o := (t_rP o4 (va_up (c_rP o4) i (vp_updL (c_rP o4 i) (2 : Int32).toNatClampNeg (0 : Int64))))) hk5) rfl 0 (by decide) (hts (.fieldLink RX5 9 "OrreryDials$Row" "places" "[J") (by decide +kernel)) (fun _ h9 => h9) rfl dX5_renew_4 ?_
  refine va_alen (v := (16 : Int32)) hx hb hK hP (7 + (c_nd (t_rP o4 (va_up (c_rP o4) i (vp_updL (c_rP o4 i) (2 : Int32).toNatClampNeg (0 : Int64)))) + (c_nv (t_rP o4 (va_up (c_rP o4) i (vp_updL (c_rP o4 i) (2 : Int32).toNatClampNeg (0 : Int64)))) + (16 + i)))) 1 (wx_arr (o := (t_rP o4 (va_up (c_rP o4) i (vp_updL (c_rP o4 i) (2 : Int32).toNatClampNeg (0 : Int64))))) hk5) rfl rfl dX5_renew_7 ?_
  refine lv_icmp_ge (tgt := 24) hx hb dX5_renew_8 (by decide) (fun cq => absurd cq (by decide)) (fun cq => ?_)
  refine lv_aload_n hx hb dX5_renew_11 rfl (lv_at hl 1 rfl) ?_
  refine va_get (D := (dC, dI)) (ci := 3) (v := .ref (ad (400 + i))) (C := RX5) (T := TX5) (N := 2) (fs := (cx_row ad (t_rP o4 (va_up (c_rP o4) i (vp_updL (c_rP o4 i) (2 : Int32).toNatClampNeg (0 : Int64)))) i)) hx hb hts hi_wsX50 hown hK hP (7 + (c_nd (t_rP o4 (va_up (c_rP o4) i (vp_updL (c_rP o4 i) (2 : Int32).toNatClampNeg (0 : Int64)))) + (c_nv (t_rP o4 (va_up (c_rP o4) i (vp_updL (c_rP o4 i) (2 : Int32).toNatClampNeg (0 : Int64)))) + i))) (wx_row (o := (t_rP o4 (va_up (c_rP o4) i (vp_updL (c_rP o4 i) (2 : Int32).toNatClampNeg (0 : Int64))))) hk5) rfl 0 (by decide) (hts (.fieldLink RX5 9 "OrreryDials$Row" "places" "[J") (by decide +kernel)) (fun _ h9 => h9) rfl dX5_renew_12 ?_
  refine lv_iload_n hx hb dX5_renew_15 rfl (lv_at hl 0 rfl) ?_
  refine lv_lconst (v := (0 : Int64)) hx hb dX5_renew_16 (by decide) ?_
  obtain ⟨hk7, hV⟩ := hV
  refine va_last hx hb hK hP hD hS (7 + (c_nd (t_rP o4 (va_up (c_rP o4) i (vp_updL (c_rP o4 i) (2 : Int32).toNatClampNeg (0 : Int64)))) + (c_nv (t_rP o4 (va_up (c_rP o4) i (vp_updL (c_rP o4 i) (2 : Int32).toNatClampNeg (0 : Int64)))) + (16 + i)))) 1 (wx_arr (o := (t_rP o4 (va_up (c_rP o4) i (vp_updL (c_rP o4 i) (2 : Int32).toNatClampNeg (0 : Int64))))) hk5) rfl hk7 dX5_renew_17 (fun H locs hP hD hS => ?_)
  rw [wx_a_rP (o := (t_rP o4 (va_up (c_rP o4) i (vp_updL (c_rP o4 i) (2 : Int32).toNatClampNeg (0 : Int64))))) hk5] at hP hD
  obtain ⟨o8, eo8⟩ : ∃ z, z = (t_rP (t_rP o4 (va_up (c_rP o4) i (vp_updL (c_rP o4 i) (2 : Int32).toNatClampNeg (0 : Int64)))) (va_up (c_rP (t_rP o4 (va_up (c_rP o4) i (vp_updL (c_rP o4 i) (2 : Int32).toNatClampNeg (0 : Int64))))) i (vp_updL (c_rP (t_rP o4 (va_up (c_rP o4) i (vp_updL (c_rP o4 i) (2 : Int32).toNatClampNeg (0 : Int64)))) i) (3 : Int32).toNatClampNeg (0 : Int64)))) := ⟨_, rfl⟩
  rw [← eo8] at hP hD hJ hV
  rw [jX5_renew_o8] at hJ
  rw [sX5_renew_o8] at hV
  have hV := hV.2
  refine lv_iinc (v := (4 : Int32)) (lv' := [(2, .int (4 : Int32)), (0, .ref (ad (300 + i))), (1, .int a1)]) hx hb dX5_renew_18 hl (k := 0) rfl (by first | rfl | decide) (by decide) rfl (fun ls hl => ?_)
  refine lv_goto (tgt := 2) hx hb dX5_renew_21 (by decide) ?_
  refine lv_iload_n hx hb dX5_renew_2 rfl (lv_at hl 0 rfl) ?_
  refine lv_aload_n hx hb dX5_renew_3 rfl (lv_at hl 1 rfl) ?_
  obtain ⟨hk9, hV⟩ := hV
  refine va_get (D := (dC, dI)) (ci := 3) (v := .ref (ad (400 + i))) (C := RX5) (T := TX5) (N := 2) (fs := (cx_row ad o8 i)) hx hb hts hi_wsX50 hown hK hP (7 + (c_nd o8 + (c_nv o8 + i))) (wx_row (o := o8) hk9) rfl 0 (by decide) (hts (.fieldLink RX5 9 "OrreryDials$Row" "places" "[J") (by decide +kernel)) (fun _ h9 => h9) rfl dX5_renew_4 ?_
  refine va_alen (v := (16 : Int32)) hx hb hK hP (7 + (c_nd o8 + (c_nv o8 + (16 + i)))) 1 (wx_arr (o := o8) hk9) rfl rfl dX5_renew_7 ?_
  refine lv_icmp_ge (tgt := 24) hx hb dX5_renew_8 (by decide) (fun cq => absurd cq (by decide)) (fun cq => ?_)
  refine lv_aload_n hx hb dX5_renew_11 rfl (lv_at hl 1 rfl) ?_
  refine va_get (D := (dC, dI)) (ci := 3) (v := .ref (ad (400 + i))) (C := RX5) (T := TX5) (N := 2) (fs := (cx_row ad o8 i)) hx hb hts hi_wsX50 hown hK hP (7 + (c_nd o8 + (c_nv o8 + i))) (wx_row (o := o8) hk9) rfl 0 (by decide) (hts (.fieldLink RX5 9 "OrreryDials$Row" "places" "[J") (by decide +kernel)) (fun _ h9 => h9) rfl dX5_renew_12 ?_
  refine lv_iload_n hx hb dX5_renew_15 rfl (lv_at hl 0 rfl) ?_
  refine lv_lconst (v := (0 : Int64)) hx hb dX5_renew_16 (by decide) ?_
  obtain ⟨hk10, hV⟩ := hV
  refine va_last hx hb hK hP hD hS (7 + (c_nd o8 + (c_nv o8 + (16 + i)))) 1 (wx_arr (o := o8) hk9) rfl hk10 dX5_renew_17 (fun H locs hP hD hS => ?_)
  rw [wx_a_rP (o := o8) hk9] at hP hD
  refine lv_iinc (v := (5 : Int32)) (lv' := [(2, .int (5 : Int32)), (0, .ref (ad (300 + i))), (1, .int a1)]) hx hb dX5_renew_18 hl (k := 0) rfl (by first | rfl | decide) (by decide) rfl (fun ls hl => ?_)
  refine lv_goto (tgt := 2) hx hb dX5_renew_21 (by decide) ?_
  refine lv_iload_n hx hb dX5_renew_2 rfl (lv_at hl 0 rfl) ?_
  refine lv_aload_n hx hb dX5_renew_3 rfl (lv_at hl 1 rfl) ?_
  refine va_get (D := (dC, dI)) (ci := 3) (v := .ref (ad (400 + i))) (C := RX5) (T := TX5) (N := 2) (fs := (cx_row ad (t_rP o8 (va_up (c_rP o8) i (vp_updL (c_rP o8 i) (4 : Int32).toNatClampNeg (0 : Int64)))) i)) hx hb hts hi_wsX50 hown hK hP (7 + (c_nd (t_rP o8 (va_up (c_rP o8) i (vp_updL (c_rP o8 i) (4 : Int32).toNatClampNeg (0 : Int64)))) + (c_nv (t_rP o8 (va_up (c_rP o8) i (vp_updL (c_rP o8 i) (4 : Int32).toNatClampNeg (0 : Int64)))) + i))) (wx_row (o := (t_rP o8 (va_up (c_rP o8) i (vp_updL (c_rP o8 i) (4 : Int32).toNatClampNeg (0 : Int64))))) hk9) rfl 0 (by decide) (hts (.fieldLink RX5 9 "OrreryDials$Row" "places" "[J") (by decide +kernel)) (fun _ h9 => h9) rfl dX5_renew_4 ?_
  refine va_alen (v := (16 : Int32)) hx hb hK hP (7 + (c_nd (t_rP o8 (va_up (c_rP o8) i (vp_updL (c_rP o8 i) (4 : Int32).toNatClampNeg (0 : Int64)))) + (c_nv (t_rP o8 (va_up (c_rP o8) i (vp_updL (c_rP o8 i) (4 : Int32).toNatClampNeg (0 : Int64)))) + (16 + i)))) 1 (wx_arr (o := (t_rP o8 (va_up (c_rP o8) i (vp_updL (c_rP o8 i) (4 : Int32).toNatClampNeg (0 : Int64))))) hk9) rfl rfl dX5_renew_7 ?_
  refine lv_icmp_ge (tgt := 24) hx hb dX5_renew_8 (by decide) (fun cq => absurd cq (by decide)) (fun cq => ?_)
  refine lv_aload_n hx hb dX5_renew_11 rfl (lv_at hl 1 rfl) ?_
  refine va_get (D := (dC, dI)) (ci := 3) (v := .ref (ad (400 + i))) (C := RX5) (T := TX5) (N := 2) (fs := (cx_row ad (t_rP o8 (va_up (c_rP o8) i (vp_updL (c_rP o8 i) (4 : Int32).toNatClampNeg (0 : Int64)))) i)) hx hb hts hi_wsX50 hown hK hP (7 + (c_nd (t_rP o8 (va_up (c_rP o8) i (vp_updL (c_rP o8 i) (4 : Int32).toNatClampNeg (0 : Int64)))) + (c_nv (t_rP o8 (va_up (c_rP o8) i (vp_updL (c_rP o8 i) (4 : Int32).toNatClampNeg (0 : Int64)))) + i))) (wx_row (o := (t_rP o8 (va_up (c_rP o8) i (vp_updL (c_rP o8 i) (4 : Int32).toNatClampNeg (0 : Int64))))) hk9) rfl 0 (by decide) (hts (.fieldLink RX5 9 "OrreryDials$Row" "places" "[J") (by decide +kernel)) (fun _ h9 => h9) rfl dX5_renew_12 ?_
  refine lv_iload_n hx hb dX5_renew_15 rfl (lv_at hl 0 rfl) ?_
  refine lv_lconst (v := (0 : Int64)) hx hb dX5_renew_16 (by decide) ?_
  obtain ⟨hk11, hV⟩ := hV
  refine va_last hx hb hK hP hD hS (7 + (c_nd (t_rP o8 (va_up (c_rP o8) i (vp_updL (c_rP o8 i) (4 : Int32).toNatClampNeg (0 : Int64)))) + (c_nv (t_rP o8 (va_up (c_rP o8) i (vp_updL (c_rP o8 i) (4 : Int32).toNatClampNeg (0 : Int64)))) + (16 + i)))) 1 (wx_arr (o := (t_rP o8 (va_up (c_rP o8) i (vp_updL (c_rP o8 i) (4 : Int32).toNatClampNeg (0 : Int64))))) hk9) rfl hk11 dX5_renew_17 (fun H locs hP hD hS => ?_)
  rw [wx_a_rP (o := (t_rP o8 (va_up (c_rP o8) i (vp_updL (c_rP o8 i) (4 : Int32).toNatClampNeg (0 : Int64))))) hk9] at hP hD
  obtain ⟨o12, eo12⟩ : ∃ z, z = (t_rP (t_rP o8 (va_up (c_rP o8) i (vp_updL (c_rP o8 i) (4 : Int32).toNatClampNeg (0 : Int64)))) (va_up (c_rP (t_rP o8 (va_up (c_rP o8) i (vp_updL (c_rP o8 i) (4 : Int32).toNatClampNeg (0 : Int64))))) i (vp_updL (c_rP (t_rP o8 (va_up (c_rP o8) i (vp_updL (c_rP o8 i) (4 : Int32).toNatClampNeg (0 : Int64)))) i) (5 : Int32).toNatClampNeg (0 : Int64)))) := ⟨_, rfl⟩
  rw [← eo12] at hP hD hJ hV
  rw [jX5_renew_o12] at hJ
  rw [sX5_renew_o12] at hV
  have hV := hV.2
  refine lv_iinc (v := (6 : Int32)) (lv' := [(2, .int (6 : Int32)), (0, .ref (ad (300 + i))), (1, .int a1)]) hx hb dX5_renew_18 hl (k := 0) rfl (by first | rfl | decide) (by decide) rfl (fun ls hl => ?_)
  refine lv_goto (tgt := 2) hx hb dX5_renew_21 (by decide) ?_
  refine lv_iload_n hx hb dX5_renew_2 rfl (lv_at hl 0 rfl) ?_
  refine lv_aload_n hx hb dX5_renew_3 rfl (lv_at hl 1 rfl) ?_
  obtain ⟨hk13, hV⟩ := hV
  refine va_get (D := (dC, dI)) (ci := 3) (v := .ref (ad (400 + i))) (C := RX5) (T := TX5) (N := 2) (fs := (cx_row ad o12 i)) hx hb hts hi_wsX50 hown hK hP (7 + (c_nd o12 + (c_nv o12 + i))) (wx_row (o := o12) hk13) rfl 0 (by decide) (hts (.fieldLink RX5 9 "OrreryDials$Row" "places" "[J") (by decide +kernel)) (fun _ h9 => h9) rfl dX5_renew_4 ?_
  refine va_alen (v := (16 : Int32)) hx hb hK hP (7 + (c_nd o12 + (c_nv o12 + (16 + i)))) 1 (wx_arr (o := o12) hk13) rfl rfl dX5_renew_7 ?_
  refine lv_icmp_ge (tgt := 24) hx hb dX5_renew_8 (by decide) (fun cq => absurd cq (by decide)) (fun cq => ?_)
  refine lv_aload_n hx hb dX5_renew_11 rfl (lv_at hl 1 rfl) ?_
  refine va_get (D := (dC, dI)) (ci := 3) (v := .ref (ad (400 + i))) (C := RX5) (T := TX5) (N := 2) (fs := (cx_row ad o12 i)) hx hb hts hi_wsX50 hown hK hP (7 + (c_nd o12 + (c_nv o12 + i))) (wx_row (o := o12) hk13) rfl 0 (by decide) (hts (.fieldLink RX5 9 "OrreryDials$Row" "places" "[J") (by decide +kernel)) (fun _ h9 => h9) rfl dX5_renew_12 ?_
  refine lv_iload_n hx hb dX5_renew_15 rfl (lv_at hl 0 rfl) ?_
  refine lv_lconst (v := (0 : Int64)) hx hb dX5_renew_16 (by decide) ?_
  obtain ⟨hk14, hV⟩ := hV
  refine va_last hx hb hK hP hD hS (7 + (c_nd o12 + (c_nv o12 + (16 + i)))) 1 (wx_arr (o := o12) hk13) rfl hk14 dX5_renew_17 (fun H locs hP hD hS => ?_)
  rw [wx_a_rP (o := o12) hk13] at hP hD
  refine lv_iinc (v := (7 : Int32)) (lv' := [(2, .int (7 : Int32)), (0, .ref (ad (300 + i))), (1, .int a1)]) hx hb dX5_renew_18 hl (k := 0) rfl (by first | rfl | decide) (by decide) rfl (fun ls hl => ?_)
  refine lv_goto (tgt := 2) hx hb dX5_renew_21 (by decide) ?_
  refine lv_iload_n hx hb dX5_renew_2 rfl (lv_at hl 0 rfl) ?_
  refine lv_aload_n hx hb dX5_renew_3 rfl (lv_at hl 1 rfl) ?_
  refine va_get (D := (dC, dI)) (ci := 3) (v := .ref (ad (400 + i))) (C := RX5) (T := TX5) (N := 2) (fs := (cx_row ad (t_rP o12 (va_up (c_rP o12) i (vp_updL (c_rP o12 i) (6 : Int32).toNatClampNeg (0 : Int64)))) i)) hx hb hts hi_wsX50 hown hK hP (7 + (c_nd (t_rP o12 (va_up (c_rP o12) i (vp_updL (c_rP o12 i) (6 : Int32).toNatClampNeg (0 : Int64)))) + (c_nv (t_rP o12 (va_up (c_rP o12) i (vp_updL (c_rP o12 i) (6 : Int32).toNatClampNeg (0 : Int64)))) + i))) (wx_row (o := (t_rP o12 (va_up (c_rP o12) i (vp_updL (c_rP o12 i) (6 : Int32).toNatClampNeg (0 : Int64))))) hk13) rfl 0 (by decide) (hts (.fieldLink RX5 9 "OrreryDials$Row" "places" "[J") (by decide +kernel)) (fun _ h9 => h9) rfl dX5_renew_4 ?_
  refine va_alen (v := (16 : Int32)) hx hb hK hP (7 + (c_nd (t_rP o12 (va_up (c_rP o12) i (vp_updL (c_rP o12 i) (6 : Int32).toNatClampNeg (0 : Int64)))) + (c_nv (t_rP o12 (va_up (c_rP o12) i (vp_updL (c_rP o12 i) (6 : Int32).toNatClampNeg (0 : Int64)))) + (16 + i)))) 1 (wx_arr (o := (t_rP o12 (va_up (c_rP o12) i (vp_updL (c_rP o12 i) (6 : Int32).toNatClampNeg (0 : Int64))))) hk13) rfl rfl dX5_renew_7 ?_
  refine lv_icmp_ge (tgt := 24) hx hb dX5_renew_8 (by decide) (fun cq => absurd cq (by decide)) (fun cq => ?_)
  refine lv_aload_n hx hb dX5_renew_11 rfl (lv_at hl 1 rfl) ?_
  refine va_get (D := (dC, dI)) (ci := 3) (v := .ref (ad (400 + i))) (C := RX5) (T := TX5) (N := 2) (fs := (cx_row ad (t_rP o12 (va_up (c_rP o12) i (vp_updL (c_rP o12 i) (6 : Int32).toNatClampNeg (0 : Int64)))) i)) hx hb hts hi_wsX50 hown hK hP (7 + (c_nd (t_rP o12 (va_up (c_rP o12) i (vp_updL (c_rP o12 i) (6 : Int32).toNatClampNeg (0 : Int64)))) + (c_nv (t_rP o12 (va_up (c_rP o12) i (vp_updL (c_rP o12 i) (6 : Int32).toNatClampNeg (0 : Int64)))) + i))) (wx_row (o := (t_rP o12 (va_up (c_rP o12) i (vp_updL (c_rP o12 i) (6 : Int32).toNatClampNeg (0 : Int64))))) hk13) rfl 0 (by decide) (hts (.fieldLink RX5 9 "OrreryDials$Row" "places" "[J") (by decide +kernel)) (fun _ h9 => h9) rfl dX5_renew_12 ?_
  refine lv_iload_n hx hb dX5_renew_15 rfl (lv_at hl 0 rfl) ?_
  refine lv_lconst (v := (0 : Int64)) hx hb dX5_renew_16 (by decide) ?_
  obtain ⟨hk15, hV⟩ := hV
  refine va_last hx hb hK hP hD hS (7 + (c_nd (t_rP o12 (va_up (c_rP o12) i (vp_updL (c_rP o12 i) (6 : Int32).toNatClampNeg (0 : Int64)))) + (c_nv (t_rP o12 (va_up (c_rP o12) i (vp_updL (c_rP o12 i) (6 : Int32).toNatClampNeg (0 : Int64)))) + (16 + i)))) 1 (wx_arr (o := (t_rP o12 (va_up (c_rP o12) i (vp_updL (c_rP o12 i) (6 : Int32).toNatClampNeg (0 : Int64))))) hk13) rfl hk15 dX5_renew_17 (fun H locs hP hD hS => ?_)
  rw [wx_a_rP (o := (t_rP o12 (va_up (c_rP o12) i (vp_updL (c_rP o12 i) (6 : Int32).toNatClampNeg (0 : Int64))))) hk13] at hP hD
  obtain ⟨o16, eo16⟩ : ∃ z, z = (t_rP (t_rP o12 (va_up (c_rP o12) i (vp_updL (c_rP o12 i) (6 : Int32).toNatClampNeg (0 : Int64)))) (va_up (c_rP (t_rP o12 (va_up (c_rP o12) i (vp_updL (c_rP o12 i) (6 : Int32).toNatClampNeg (0 : Int64))))) i (vp_updL (c_rP (t_rP o12 (va_up (c_rP o12) i (vp_updL (c_rP o12 i) (6 : Int32).toNatClampNeg (0 : Int64)))) i) (7 : Int32).toNatClampNeg (0 : Int64)))) := ⟨_, rfl⟩
  rw [← eo16] at hP hD hJ hV
  rw [jX5_renew_o16] at hJ
  rw [sX5_renew_o16] at hV
  have hV := hV.2
  refine lv_iinc (v := (8 : Int32)) (lv' := [(2, .int (8 : Int32)), (0, .ref (ad (300 + i))), (1, .int a1)]) hx hb dX5_renew_18 hl (k := 0) rfl (by first | rfl | decide) (by decide) rfl (fun ls hl => ?_)
  refine lv_goto (tgt := 2) hx hb dX5_renew_21 (by decide) ?_
  refine lv_iload_n hx hb dX5_renew_2 rfl (lv_at hl 0 rfl) ?_
  refine lv_aload_n hx hb dX5_renew_3 rfl (lv_at hl 1 rfl) ?_
  obtain ⟨hk17, hV⟩ := hV
  refine va_get (D := (dC, dI)) (ci := 3) (v := .ref (ad (400 + i))) (C := RX5) (T := TX5) (N := 2) (fs := (cx_row ad o16 i)) hx hb hts hi_wsX50 hown hK hP (7 + (c_nd o16 + (c_nv o16 + i))) (wx_row (o := o16) hk17) rfl 0 (by decide) (hts (.fieldLink RX5 9 "OrreryDials$Row" "places" "[J") (by decide +kernel)) (fun _ h9 => h9) rfl dX5_renew_4 ?_
  refine va_alen (v := (16 : Int32)) hx hb hK hP (7 + (c_nd o16 + (c_nv o16 + (16 + i)))) 1 (wx_arr (o := o16) hk17) rfl rfl dX5_renew_7 ?_
  refine lv_icmp_ge (tgt := 24) hx hb dX5_renew_8 (by decide) (fun cq => absurd cq (by decide)) (fun cq => ?_)
  refine lv_aload_n hx hb dX5_renew_11 rfl (lv_at hl 1 rfl) ?_
  refine va_get (D := (dC, dI)) (ci := 3) (v := .ref (ad (400 + i))) (C := RX5) (T := TX5) (N := 2) (fs := (cx_row ad o16 i)) hx hb hts hi_wsX50 hown hK hP (7 + (c_nd o16 + (c_nv o16 + i))) (wx_row (o := o16) hk17) rfl 0 (by decide) (hts (.fieldLink RX5 9 "OrreryDials$Row" "places" "[J") (by decide +kernel)) (fun _ h9 => h9) rfl dX5_renew_12 ?_
  refine lv_iload_n hx hb dX5_renew_15 rfl (lv_at hl 0 rfl) ?_
  refine lv_lconst (v := (0 : Int64)) hx hb dX5_renew_16 (by decide) ?_
  obtain ⟨hk18, hV⟩ := hV
  refine va_last hx hb hK hP hD hS (7 + (c_nd o16 + (c_nv o16 + (16 + i)))) 1 (wx_arr (o := o16) hk17) rfl hk18 dX5_renew_17 (fun H locs hP hD hS => ?_)
  rw [wx_a_rP (o := o16) hk17] at hP hD
  refine lv_iinc (v := (9 : Int32)) (lv' := [(2, .int (9 : Int32)), (0, .ref (ad (300 + i))), (1, .int a1)]) hx hb dX5_renew_18 hl (k := 0) rfl (by first | rfl | decide) (by decide) rfl (fun ls hl => ?_)
  refine lv_goto (tgt := 2) hx hb dX5_renew_21 (by decide) ?_
  refine lv_iload_n hx hb dX5_renew_2 rfl (lv_at hl 0 rfl) ?_
  refine lv_aload_n hx hb dX5_renew_3 rfl (lv_at hl 1 rfl) ?_
  refine va_get (D := (dC, dI)) (ci := 3) (v := .ref (ad (400 + i))) (C := RX5) (T := TX5) (N := 2) (fs := (cx_row ad (t_rP o16 (va_up (c_rP o16) i (vp_updL (c_rP o16 i) (8 : Int32).toNatClampNeg (0 : Int64)))) i)) hx hb hts hi_wsX50 hown hK hP (7 + (c_nd (t_rP o16 (va_up (c_rP o16) i (vp_updL (c_rP o16 i) (8 : Int32).toNatClampNeg (0 : Int64)))) + (c_nv (t_rP o16 (va_up (c_rP o16) i (vp_updL (c_rP o16 i) (8 : Int32).toNatClampNeg (0 : Int64)))) + i))) (wx_row (o := (t_rP o16 (va_up (c_rP o16) i (vp_updL (c_rP o16 i) (8 : Int32).toNatClampNeg (0 : Int64))))) hk17) rfl 0 (by decide) (hts (.fieldLink RX5 9 "OrreryDials$Row" "places" "[J") (by decide +kernel)) (fun _ h9 => h9) rfl dX5_renew_4 ?_
  refine va_alen (v := (16 : Int32)) hx hb hK hP (7 + (c_nd (t_rP o16 (va_up (c_rP o16) i (vp_updL (c_rP o16 i) (8 : Int32).toNatClampNeg (0 : Int64)))) + (c_nv (t_rP o16 (va_up (c_rP o16) i (vp_updL (c_rP o16 i) (8 : Int32).toNatClampNeg (0 : Int64)))) + (16 + i)))) 1 (wx_arr (o := (t_rP o16 (va_up (c_rP o16) i (vp_updL (c_rP o16 i) (8 : Int32).toNatClampNeg (0 : Int64))))) hk17) rfl rfl dX5_renew_7 ?_
  refine lv_icmp_ge (tgt := 24) hx hb dX5_renew_8 (by decide) (fun cq => absurd cq (by decide)) (fun cq => ?_)
  refine lv_aload_n hx hb dX5_renew_11 rfl (lv_at hl 1 rfl) ?_
  refine va_get (D := (dC, dI)) (ci := 3) (v := .ref (ad (400 + i))) (C := RX5) (T := TX5) (N := 2) (fs := (cx_row ad (t_rP o16 (va_up (c_rP o16) i (vp_updL (c_rP o16 i) (8 : Int32).toNatClampNeg (0 : Int64)))) i)) hx hb hts hi_wsX50 hown hK hP (7 + (c_nd (t_rP o16 (va_up (c_rP o16) i (vp_updL (c_rP o16 i) (8 : Int32).toNatClampNeg (0 : Int64)))) + (c_nv (t_rP o16 (va_up (c_rP o16) i (vp_updL (c_rP o16 i) (8 : Int32).toNatClampNeg (0 : Int64)))) + i))) (wx_row (o := (t_rP o16 (va_up (c_rP o16) i (vp_updL (c_rP o16 i) (8 : Int32).toNatClampNeg (0 : Int64))))) hk17) rfl 0 (by decide) (hts (.fieldLink RX5 9 "OrreryDials$Row" "places" "[J") (by decide +kernel)) (fun _ h9 => h9) rfl dX5_renew_12 ?_
  refine lv_iload_n hx hb dX5_renew_15 rfl (lv_at hl 0 rfl) ?_
  refine lv_lconst (v := (0 : Int64)) hx hb dX5_renew_16 (by decide) ?_
  obtain ⟨hk19, hV⟩ := hV
  refine va_last hx hb hK hP hD hS (7 + (c_nd (t_rP o16 (va_up (c_rP o16) i (vp_updL (c_rP o16 i) (8 : Int32).toNatClampNeg (0 : Int64)))) + (c_nv (t_rP o16 (va_up (c_rP o16) i (vp_updL (c_rP o16 i) (8 : Int32).toNatClampNeg (0 : Int64)))) + (16 + i)))) 1 (wx_arr (o := (t_rP o16 (va_up (c_rP o16) i (vp_updL (c_rP o16 i) (8 : Int32).toNatClampNeg (0 : Int64))))) hk17) rfl hk19 dX5_renew_17 (fun H locs hP hD hS => ?_)
  rw [wx_a_rP (o := (t_rP o16 (va_up (c_rP o16) i (vp_updL (c_rP o16 i) (8 : Int32).toNatClampNeg (0 : Int64))))) hk17] at hP hD
  obtain ⟨o20, eo20⟩ : ∃ z, z = (t_rP (t_rP o16 (va_up (c_rP o16) i (vp_updL (c_rP o16 i) (8 : Int32).toNatClampNeg (0 : Int64)))) (va_up (c_rP (t_rP o16 (va_up (c_rP o16) i (vp_updL (c_rP o16 i) (8 : Int32).toNatClampNeg (0 : Int64))))) i (vp_updL (c_rP (t_rP o16 (va_up (c_rP o16) i (vp_updL (c_rP o16 i) (8 : Int32).toNatClampNeg (0 : Int64)))) i) (9 : Int32).toNatClampNeg (0 : Int64)))) := ⟨_, rfl⟩
  rw [← eo20] at hP hD hJ hV
  rw [jX5_renew_o20] at hJ
  rw [sX5_renew_o20] at hV
  have hV := hV.2
  refine lv_iinc (v := (10 : Int32)) (lv' := [(2, .int (10 : Int32)), (0, .ref (ad (300 + i))), (1, .int a1)]) hx hb dX5_renew_18 hl (k := 0) rfl (by first | rfl | decide) (by decide) rfl (fun ls hl => ?_)
  refine lv_goto (tgt := 2) hx hb dX5_renew_21 (by decide) ?_
  refine lv_iload_n hx hb dX5_renew_2 rfl (lv_at hl 0 rfl) ?_
  refine lv_aload_n hx hb dX5_renew_3 rfl (lv_at hl 1 rfl) ?_
  obtain ⟨hk21, hV⟩ := hV
  refine va_get (D := (dC, dI)) (ci := 3) (v := .ref (ad (400 + i))) (C := RX5) (T := TX5) (N := 2) (fs := (cx_row ad o20 i)) hx hb hts hi_wsX50 hown hK hP (7 + (c_nd o20 + (c_nv o20 + i))) (wx_row (o := o20) hk21) rfl 0 (by decide) (hts (.fieldLink RX5 9 "OrreryDials$Row" "places" "[J") (by decide +kernel)) (fun _ h9 => h9) rfl dX5_renew_4 ?_
  refine va_alen (v := (16 : Int32)) hx hb hK hP (7 + (c_nd o20 + (c_nv o20 + (16 + i)))) 1 (wx_arr (o := o20) hk21) rfl rfl dX5_renew_7 ?_
  refine lv_icmp_ge (tgt := 24) hx hb dX5_renew_8 (by decide) (fun cq => absurd cq (by decide)) (fun cq => ?_)
  refine lv_aload_n hx hb dX5_renew_11 rfl (lv_at hl 1 rfl) ?_
  refine va_get (D := (dC, dI)) (ci := 3) (v := .ref (ad (400 + i))) (C := RX5) (T := TX5) (N := 2) (fs := (cx_row ad o20 i)) hx hb hts hi_wsX50 hown hK hP (7 + (c_nd o20 + (c_nv o20 + i))) (wx_row (o := o20) hk21) rfl 0 (by decide) (hts (.fieldLink RX5 9 "OrreryDials$Row" "places" "[J") (by decide +kernel)) (fun _ h9 => h9) rfl dX5_renew_12 ?_
  refine lv_iload_n hx hb dX5_renew_15 rfl (lv_at hl 0 rfl) ?_
  refine lv_lconst (v := (0 : Int64)) hx hb dX5_renew_16 (by decide) ?_
  obtain ⟨hk22, hV⟩ := hV
  refine va_last hx hb hK hP hD hS (7 + (c_nd o20 + (c_nv o20 + (16 + i)))) 1 (wx_arr (o := o20) hk21) rfl hk22 dX5_renew_17 (fun H locs hP hD hS => ?_)
  rw [wx_a_rP (o := o20) hk21] at hP hD
  refine lv_iinc (v := (11 : Int32)) (lv' := [(2, .int (11 : Int32)), (0, .ref (ad (300 + i))), (1, .int a1)]) hx hb dX5_renew_18 hl (k := 0) rfl (by first | rfl | decide) (by decide) rfl (fun ls hl => ?_)
  refine lv_goto (tgt := 2) hx hb dX5_renew_21 (by decide) ?_
  refine lv_iload_n hx hb dX5_renew_2 rfl (lv_at hl 0 rfl) ?_
  refine lv_aload_n hx hb dX5_renew_3 rfl (lv_at hl 1 rfl) ?_
  refine va_get (D := (dC, dI)) (ci := 3) (v := .ref (ad (400 + i))) (C := RX5) (T := TX5) (N := 2) (fs := (cx_row ad (t_rP o20 (va_up (c_rP o20) i (vp_updL (c_rP o20 i) (10 : Int32).toNatClampNeg (0 : Int64)))) i)) hx hb hts hi_wsX50 hown hK hP (7 + (c_nd (t_rP o20 (va_up (c_rP o20) i (vp_updL (c_rP o20 i) (10 : Int32).toNatClampNeg (0 : Int64)))) + (c_nv (t_rP o20 (va_up (c_rP o20) i (vp_updL (c_rP o20 i) (10 : Int32).toNatClampNeg (0 : Int64)))) + i))) (wx_row (o := (t_rP o20 (va_up (c_rP o20) i (vp_updL (c_rP o20 i) (10 : Int32).toNatClampNeg (0 : Int64))))) hk21) rfl 0 (by decide) (hts (.fieldLink RX5 9 "OrreryDials$Row" "places" "[J") (by decide +kernel)) (fun _ h9 => h9) rfl dX5_renew_4 ?_
  refine va_alen (v := (16 : Int32)) hx hb hK hP (7 + (c_nd (t_rP o20 (va_up (c_rP o20) i (vp_updL (c_rP o20 i) (10 : Int32).toNatClampNeg (0 : Int64)))) + (c_nv (t_rP o20 (va_up (c_rP o20) i (vp_updL (c_rP o20 i) (10 : Int32).toNatClampNeg (0 : Int64)))) + (16 + i)))) 1 (wx_arr (o := (t_rP o20 (va_up (c_rP o20) i (vp_updL (c_rP o20 i) (10 : Int32).toNatClampNeg (0 : Int64))))) hk21) rfl rfl dX5_renew_7 ?_
  refine lv_icmp_ge (tgt := 24) hx hb dX5_renew_8 (by decide) (fun cq => absurd cq (by decide)) (fun cq => ?_)
  refine lv_aload_n hx hb dX5_renew_11 rfl (lv_at hl 1 rfl) ?_
  refine va_get (D := (dC, dI)) (ci := 3) (v := .ref (ad (400 + i))) (C := RX5) (T := TX5) (N := 2) (fs := (cx_row ad (t_rP o20 (va_up (c_rP o20) i (vp_updL (c_rP o20 i) (10 : Int32).toNatClampNeg (0 : Int64)))) i)) hx hb hts hi_wsX50 hown hK hP (7 + (c_nd (t_rP o20 (va_up (c_rP o20) i (vp_updL (c_rP o20 i) (10 : Int32).toNatClampNeg (0 : Int64)))) + (c_nv (t_rP o20 (va_up (c_rP o20) i (vp_updL (c_rP o20 i) (10 : Int32).toNatClampNeg (0 : Int64)))) + i))) (wx_row (o := (t_rP o20 (va_up (c_rP o20) i (vp_updL (c_rP o20 i) (10 : Int32).toNatClampNeg (0 : Int64))))) hk21) rfl 0 (by decide) (hts (.fieldLink RX5 9 "OrreryDials$Row" "places" "[J") (by decide +kernel)) (fun _ h9 => h9) rfl dX5_renew_12 ?_
  refine lv_iload_n hx hb dX5_renew_15 rfl (lv_at hl 0 rfl) ?_
  refine lv_lconst (v := (0 : Int64)) hx hb dX5_renew_16 (by decide) ?_
  obtain ⟨hk23, hV⟩ := hV
  refine va_last hx hb hK hP hD hS (7 + (c_nd (t_rP o20 (va_up (c_rP o20) i (vp_updL (c_rP o20 i) (10 : Int32).toNatClampNeg (0 : Int64)))) + (c_nv (t_rP o20 (va_up (c_rP o20) i (vp_updL (c_rP o20 i) (10 : Int32).toNatClampNeg (0 : Int64)))) + (16 + i)))) 1 (wx_arr (o := (t_rP o20 (va_up (c_rP o20) i (vp_updL (c_rP o20 i) (10 : Int32).toNatClampNeg (0 : Int64))))) hk21) rfl hk23 dX5_renew_17 (fun H locs hP hD hS => ?_)
  rw [wx_a_rP (o := (t_rP o20 (va_up (c_rP o20) i (vp_updL (c_rP o20 i) (10 : Int32).toNatClampNeg (0 : Int64))))) hk21] at hP hD
  obtain ⟨o24, eo24⟩ : ∃ z, z = (t_rP (t_rP o20 (va_up (c_rP o20) i (vp_updL (c_rP o20 i) (10 : Int32).toNatClampNeg (0 : Int64)))) (va_up (c_rP (t_rP o20 (va_up (c_rP o20) i (vp_updL (c_rP o20 i) (10 : Int32).toNatClampNeg (0 : Int64))))) i (vp_updL (c_rP (t_rP o20 (va_up (c_rP o20) i (vp_updL (c_rP o20 i) (10 : Int32).toNatClampNeg (0 : Int64)))) i) (11 : Int32).toNatClampNeg (0 : Int64)))) := ⟨_, rfl⟩
  rw [← eo24] at hP hD hJ hV
  rw [jX5_renew_o24] at hJ
  rw [sX5_renew_o24] at hV
  have hV := hV.2
  refine lv_iinc (v := (12 : Int32)) (lv' := [(2, .int (12 : Int32)), (0, .ref (ad (300 + i))), (1, .int a1)]) hx hb dX5_renew_18 hl (k := 0) rfl (by first | rfl | decide) (by decide) rfl (fun ls hl => ?_)
  refine lv_goto (tgt := 2) hx hb dX5_renew_21 (by decide) ?_
  refine lv_iload_n hx hb dX5_renew_2 rfl (lv_at hl 0 rfl) ?_
  refine lv_aload_n hx hb dX5_renew_3 rfl (lv_at hl 1 rfl) ?_
  obtain ⟨hk25, hV⟩ := hV
  refine va_get (D := (dC, dI)) (ci := 3) (v := .ref (ad (400 + i))) (C := RX5) (T := TX5) (N := 2) (fs := (cx_row ad o24 i)) hx hb hts hi_wsX50 hown hK hP (7 + (c_nd o24 + (c_nv o24 + i))) (wx_row (o := o24) hk25) rfl 0 (by decide) (hts (.fieldLink RX5 9 "OrreryDials$Row" "places" "[J") (by decide +kernel)) (fun _ h9 => h9) rfl dX5_renew_4 ?_
  refine va_alen (v := (16 : Int32)) hx hb hK hP (7 + (c_nd o24 + (c_nv o24 + (16 + i)))) 1 (wx_arr (o := o24) hk25) rfl rfl dX5_renew_7 ?_
  refine lv_icmp_ge (tgt := 24) hx hb dX5_renew_8 (by decide) (fun cq => absurd cq (by decide)) (fun cq => ?_)
  refine lv_aload_n hx hb dX5_renew_11 rfl (lv_at hl 1 rfl) ?_
  refine va_get (D := (dC, dI)) (ci := 3) (v := .ref (ad (400 + i))) (C := RX5) (T := TX5) (N := 2) (fs := (cx_row ad o24 i)) hx hb hts hi_wsX50 hown hK hP (7 + (c_nd o24 + (c_nv o24 + i))) (wx_row (o := o24) hk25) rfl 0 (by decide) (hts (.fieldLink RX5 9 "OrreryDials$Row" "places" "[J") (by decide +kernel)) (fun _ h9 => h9) rfl dX5_renew_12 ?_
  refine lv_iload_n hx hb dX5_renew_15 rfl (lv_at hl 0 rfl) ?_
  refine lv_lconst (v := (0 : Int64)) hx hb dX5_renew_16 (by decide) ?_
  obtain ⟨hk26, hV⟩ := hV
  refine va_last hx hb hK hP hD hS (7 + (c_nd o24 + (c_nv o24 + (16 + i)))) 1 (wx_arr (o := o24) hk25) rfl hk26 dX5_renew_17 (fun H locs hP hD hS => ?_)
  rw [wx_a_rP (o := o24) hk25] at hP hD
  refine lv_iinc (v := (13 : Int32)) (lv' := [(2, .int (13 : Int32)), (0, .ref (ad (300 + i))), (1, .int a1)]) hx hb dX5_renew_18 hl (k := 0) rfl (by first | rfl | decide) (by decide) rfl (fun ls hl => ?_)
  refine lv_goto (tgt := 2) hx hb dX5_renew_21 (by decide) ?_
  refine lv_iload_n hx hb dX5_renew_2 rfl (lv_at hl 0 rfl) ?_
  refine lv_aload_n hx hb dX5_renew_3 rfl (lv_at hl 1 rfl) ?_
  refine va_get (D := (dC, dI)) (ci := 3) (v := .ref (ad (400 + i))) (C := RX5) (T := TX5) (N := 2) (fs := (cx_row ad (t_rP o24 (va_up (c_rP o24) i (vp_updL (c_rP o24 i) (12 : Int32).toNatClampNeg (0 : Int64)))) i)) hx hb hts hi_wsX50 hown hK hP (7 + (c_nd (t_rP o24 (va_up (c_rP o24) i (vp_updL (c_rP o24 i) (12 : Int32).toNatClampNeg (0 : Int64)))) + (c_nv (t_rP o24 (va_up (c_rP o24) i (vp_updL (c_rP o24 i) (12 : Int32).toNatClampNeg (0 : Int64)))) + i))) (wx_row (o := (t_rP o24 (va_up (c_rP o24) i (vp_updL (c_rP o24 i) (12 : Int32).toNatClampNeg (0 : Int64))))) hk25) rfl 0 (by decide) (hts (.fieldLink RX5 9 "OrreryDials$Row" "places" "[J") (by decide +kernel)) (fun _ h9 => h9) rfl dX5_renew_4 ?_
  refine va_alen (v := (16 : Int32)) hx hb hK hP (7 + (c_nd (t_rP o24 (va_up (c_rP o24) i (vp_updL (c_rP o24 i) (12 : Int32).toNatClampNeg (0 : Int64)))) + (c_nv (t_rP o24 (va_up (c_rP o24) i (vp_updL (c_rP o24 i) (12 : Int32).toNatClampNeg (0 : Int64)))) + (16 + i)))) 1 (wx_arr (o := (t_rP o24 (va_up (c_rP o24) i (vp_updL (c_rP o24 i) (12 : Int32).toNatClampNeg (0 : Int64))))) hk25) rfl rfl dX5_renew_7 ?_
  refine lv_icmp_ge (tgt := 24) hx hb dX5_renew_8 (by decide) (fun cq => absurd cq (by decide)) (fun cq => ?_)
  refine lv_aload_n hx hb dX5_renew_11 rfl (lv_at hl 1 rfl) ?_
  refine va_get (D := (dC, dI)) (ci := 3) (v := .ref (ad (400 + i))) (C := RX5) (T := TX5) (N := 2) (fs := (cx_row ad (t_rP o24 (va_up (c_rP o24) i (vp_updL (c_rP o24 i) (12 : Int32).toNatClampNeg (0 : Int64)))) i)) hx hb hts hi_wsX50 hown hK hP (7 + (c_nd (t_rP o24 (va_up (c_rP o24) i (vp_updL (c_rP o24 i) (12 : Int32).toNatClampNeg (0 : Int64)))) + (c_nv (t_rP o24 (va_up (c_rP o24) i (vp_updL (c_rP o24 i) (12 : Int32).toNatClampNeg (0 : Int64)))) + i))) (wx_row (o := (t_rP o24 (va_up (c_rP o24) i (vp_updL (c_rP o24 i) (12 : Int32).toNatClampNeg (0 : Int64))))) hk25) rfl 0 (by decide) (hts (.fieldLink RX5 9 "OrreryDials$Row" "places" "[J") (by decide +kernel)) (fun _ h9 => h9) rfl dX5_renew_12 ?_
  refine lv_iload_n hx hb dX5_renew_15 rfl (lv_at hl 0 rfl) ?_
  refine lv_lconst (v := (0 : Int64)) hx hb dX5_renew_16 (by decide) ?_
  obtain ⟨hk27, hV⟩ := hV
  refine va_last hx hb hK hP hD hS (7 + (c_nd (t_rP o24 (va_up (c_rP o24) i (vp_updL (c_rP o24 i) (12 : Int32).toNatClampNeg (0 : Int64)))) + (c_nv (t_rP o24 (va_up (c_rP o24) i (vp_updL (c_rP o24 i) (12 : Int32).toNatClampNeg (0 : Int64)))) + (16 + i)))) 1 (wx_arr (o := (t_rP o24 (va_up (c_rP o24) i (vp_updL (c_rP o24 i) (12 : Int32).toNatClampNeg (0 : Int64))))) hk25) rfl hk27 dX5_renew_17 (fun H locs hP hD hS => ?_)
  rw [wx_a_rP (o := (t_rP o24 (va_up (c_rP o24) i (vp_updL (c_rP o24 i) (12 : Int32).toNatClampNeg (0 : Int64))))) hk25] at hP hD
  obtain ⟨o28, eo28⟩ : ∃ z, z = (t_rP (t_rP o24 (va_up (c_rP o24) i (vp_updL (c_rP o24 i) (12 : Int32).toNatClampNeg (0 : Int64)))) (va_up (c_rP (t_rP o24 (va_up (c_rP o24) i (vp_updL (c_rP o24 i) (12 : Int32).toNatClampNeg (0 : Int64))))) i (vp_updL (c_rP (t_rP o24 (va_up (c_rP o24) i (vp_updL (c_rP o24 i) (12 : Int32).toNatClampNeg (0 : Int64)))) i) (13 : Int32).toNatClampNeg (0 : Int64)))) := ⟨_, rfl⟩
  rw [← eo28] at hP hD hJ hV
  rw [jX5_renew_o28] at hJ
  rw [sX5_renew_o28] at hV
  have hV := hV.2
  refine lv_iinc (v := (14 : Int32)) (lv' := [(2, .int (14 : Int32)), (0, .ref (ad (300 + i))), (1, .int a1)]) hx hb dX5_renew_18 hl (k := 0) rfl (by first | rfl | decide) (by decide) rfl (fun ls hl => ?_)
  refine lv_goto (tgt := 2) hx hb dX5_renew_21 (by decide) ?_
  refine lv_iload_n hx hb dX5_renew_2 rfl (lv_at hl 0 rfl) ?_
  refine lv_aload_n hx hb dX5_renew_3 rfl (lv_at hl 1 rfl) ?_
  obtain ⟨hk29, hV⟩ := hV
  refine va_get (D := (dC, dI)) (ci := 3) (v := .ref (ad (400 + i))) (C := RX5) (T := TX5) (N := 2) (fs := (cx_row ad o28 i)) hx hb hts hi_wsX50 hown hK hP (7 + (c_nd o28 + (c_nv o28 + i))) (wx_row (o := o28) hk29) rfl 0 (by decide) (hts (.fieldLink RX5 9 "OrreryDials$Row" "places" "[J") (by decide +kernel)) (fun _ h9 => h9) rfl dX5_renew_4 ?_
  refine va_alen (v := (16 : Int32)) hx hb hK hP (7 + (c_nd o28 + (c_nv o28 + (16 + i)))) 1 (wx_arr (o := o28) hk29) rfl rfl dX5_renew_7 ?_
  refine lv_icmp_ge (tgt := 24) hx hb dX5_renew_8 (by decide) (fun cq => absurd cq (by decide)) (fun cq => ?_)
  refine lv_aload_n hx hb dX5_renew_11 rfl (lv_at hl 1 rfl) ?_
  refine va_get (D := (dC, dI)) (ci := 3) (v := .ref (ad (400 + i))) (C := RX5) (T := TX5) (N := 2) (fs := (cx_row ad o28 i)) hx hb hts hi_wsX50 hown hK hP (7 + (c_nd o28 + (c_nv o28 + i))) (wx_row (o := o28) hk29) rfl 0 (by decide) (hts (.fieldLink RX5 9 "OrreryDials$Row" "places" "[J") (by decide +kernel)) (fun _ h9 => h9) rfl dX5_renew_12 ?_
  refine lv_iload_n hx hb dX5_renew_15 rfl (lv_at hl 0 rfl) ?_
  refine lv_lconst (v := (0 : Int64)) hx hb dX5_renew_16 (by decide) ?_
  obtain ⟨hk30, hV⟩ := hV
  refine va_last hx hb hK hP hD hS (7 + (c_nd o28 + (c_nv o28 + (16 + i)))) 1 (wx_arr (o := o28) hk29) rfl hk30 dX5_renew_17 (fun H locs hP hD hS => ?_)
  rw [wx_a_rP (o := o28) hk29] at hP hD
  refine lv_iinc (v := (15 : Int32)) (lv' := [(2, .int (15 : Int32)), (0, .ref (ad (300 + i))), (1, .int a1)]) hx hb dX5_renew_18 hl (k := 0) rfl (by first | rfl | decide) (by decide) rfl (fun ls hl => ?_)
  refine lv_goto (tgt := 2) hx hb dX5_renew_21 (by decide) ?_
  refine lv_iload_n hx hb dX5_renew_2 rfl (lv_at hl 0 rfl) ?_
  refine lv_aload_n hx hb dX5_renew_3 rfl (lv_at hl 1 rfl) ?_
  refine va_get (D := (dC, dI)) (ci := 3) (v := .ref (ad (400 + i))) (C := RX5) (T := TX5) (N := 2) (fs := (cx_row ad (t_rP o28 (va_up (c_rP o28) i (vp_updL (c_rP o28 i) (14 : Int32).toNatClampNeg (0 : Int64)))) i)) hx hb hts hi_wsX50 hown hK hP (7 + (c_nd (t_rP o28 (va_up (c_rP o28) i (vp_updL (c_rP o28 i) (14 : Int32).toNatClampNeg (0 : Int64)))) + (c_nv (t_rP o28 (va_up (c_rP o28) i (vp_updL (c_rP o28 i) (14 : Int32).toNatClampNeg (0 : Int64)))) + i))) (wx_row (o := (t_rP o28 (va_up (c_rP o28) i (vp_updL (c_rP o28 i) (14 : Int32).toNatClampNeg (0 : Int64))))) hk29) rfl 0 (by decide) (hts (.fieldLink RX5 9 "OrreryDials$Row" "places" "[J") (by decide +kernel)) (fun _ h9 => h9) rfl dX5_renew_4 ?_
  refine va_alen (v := (16 : Int32)) hx hb hK hP (7 + (c_nd (t_rP o28 (va_up (c_rP o28) i (vp_updL (c_rP o28 i) (14 : Int32).toNatClampNeg (0 : Int64)))) + (c_nv (t_rP o28 (va_up (c_rP o28) i (vp_updL (c_rP o28 i) (14 : Int32).toNatClampNeg (0 : Int64)))) + (16 + i)))) 1 (wx_arr (o := (t_rP o28 (va_up (c_rP o28) i (vp_updL (c_rP o28 i) (14 : Int32).toNatClampNeg (0 : Int64))))) hk29) rfl rfl dX5_renew_7 ?_
  refine lv_icmp_ge (tgt := 24) hx hb dX5_renew_8 (by decide) (fun cq => absurd cq (by decide)) (fun cq => ?_)
  refine lv_aload_n hx hb dX5_renew_11 rfl (lv_at hl 1 rfl) ?_
  refine va_get (D := (dC, dI)) (ci := 3) (v := .ref (ad (400 + i))) (C := RX5) (T := TX5) (N := 2) (fs := (cx_row ad (t_rP o28 (va_up (c_rP o28) i (vp_updL (c_rP o28 i) (14 : Int32).toNatClampNeg (0 : Int64)))) i)) hx hb hts hi_wsX50 hown hK hP (7 + (c_nd (t_rP o28 (va_up (c_rP o28) i (vp_updL (c_rP o28 i) (14 : Int32).toNatClampNeg (0 : Int64)))) + (c_nv (t_rP o28 (va_up (c_rP o28) i (vp_updL (c_rP o28 i) (14 : Int32).toNatClampNeg (0 : Int64)))) + i))) (wx_row (o := (t_rP o28 (va_up (c_rP o28) i (vp_updL (c_rP o28 i) (14 : Int32).toNatClampNeg (0 : Int64))))) hk29) rfl 0 (by decide) (hts (.fieldLink RX5 9 "OrreryDials$Row" "places" "[J") (by decide +kernel)) (fun _ h9 => h9) rfl dX5_renew_12 ?_
  refine lv_iload_n hx hb dX5_renew_15 rfl (lv_at hl 0 rfl) ?_
  refine lv_lconst (v := (0 : Int64)) hx hb dX5_renew_16 (by decide) ?_
  obtain ⟨hk31, hV⟩ := hV
  refine va_last hx hb hK hP hD hS (7 + (c_nd (t_rP o28 (va_up (c_rP o28) i (vp_updL (c_rP o28 i) (14 : Int32).toNatClampNeg (0 : Int64)))) + (c_nv (t_rP o28 (va_up (c_rP o28) i (vp_updL (c_rP o28 i) (14 : Int32).toNatClampNeg (0 : Int64)))) + (16 + i)))) 1 (wx_arr (o := (t_rP o28 (va_up (c_rP o28) i (vp_updL (c_rP o28 i) (14 : Int32).toNatClampNeg (0 : Int64))))) hk29) rfl hk31 dX5_renew_17 (fun H locs hP hD hS => ?_)
  rw [wx_a_rP (o := (t_rP o28 (va_up (c_rP o28) i (vp_updL (c_rP o28 i) (14 : Int32).toNatClampNeg (0 : Int64))))) hk29] at hP hD
  obtain ⟨o32, eo32⟩ : ∃ z, z = (t_rP (t_rP o28 (va_up (c_rP o28) i (vp_updL (c_rP o28 i) (14 : Int32).toNatClampNeg (0 : Int64)))) (va_up (c_rP (t_rP o28 (va_up (c_rP o28) i (vp_updL (c_rP o28 i) (14 : Int32).toNatClampNeg (0 : Int64))))) i (vp_updL (c_rP (t_rP o28 (va_up (c_rP o28) i (vp_updL (c_rP o28 i) (14 : Int32).toNatClampNeg (0 : Int64)))) i) (15 : Int32).toNatClampNeg (0 : Int64)))) := ⟨_, rfl⟩
  rw [← eo32] at hP hD hJ hV
  rw [jX5_renew_o32] at hJ
  rw [sX5_renew_o32] at hV
  have hV := hV.2
  refine lv_iinc (v := (16 : Int32)) (lv' := [(2, .int (16 : Int32)), (0, .ref (ad (300 + i))), (1, .int a1)]) hx hb dX5_renew_18 hl (k := 0) rfl (by first | rfl | decide) (by decide) rfl (fun ls hl => ?_)
  refine lv_goto (tgt := 2) hx hb dX5_renew_21 (by decide) ?_
  refine lv_iload_n hx hb dX5_renew_2 rfl (lv_at hl 0 rfl) ?_
  refine lv_aload_n hx hb dX5_renew_3 rfl (lv_at hl 1 rfl) ?_
  obtain ⟨hk33, hV⟩ := hV
  refine va_get (D := (dC, dI)) (ci := 3) (v := .ref (ad (400 + i))) (C := RX5) (T := TX5) (N := 2) (fs := (cx_row ad o32 i)) hx hb hts hi_wsX50 hown hK hP (7 + (c_nd o32 + (c_nv o32 + i))) (wx_row (o := o32) hk33) rfl 0 (by decide) (hts (.fieldLink RX5 9 "OrreryDials$Row" "places" "[J") (by decide +kernel)) (fun _ h9 => h9) rfl dX5_renew_4 ?_
  refine va_alen (v := (16 : Int32)) hx hb hK hP (7 + (c_nd o32 + (c_nv o32 + (16 + i)))) 1 (wx_arr (o := o32) hk33) rfl rfl dX5_renew_7 ?_
  refine lv_icmp_ge (tgt := 24) hx hb dX5_renew_8 (by decide) (fun cq => ?_) (fun cq => absurd cq (by decide))
  refine lv_aload_n hx hb dX5_renew_24 rfl (lv_at hl 1 rfl) ?_
  refine lv_iload_n hx hb dX5_renew_25 rfl (lv_at hl 2 rfl) ?_
  refine va_put (D := (dC, dI)) (ci := 3) (v := .int a1) (ty := .int) (C := RX5) (T := TX5) (N := 2) (fs := (cx_row ad o32 i)) hx hb hts hi_wsX50 tyX5 tyX5_ok nmX5 hown hK hP hD hS (7 + (c_nd o32 + (c_nv o32 + i))) (wx_row (o := o32) hk33) rfl 1 (by decide) (hts (.fieldLink RX5 15 "OrreryDials$Row" "size" "I") (by decide +kernel)) (fun _ h9 => h9) rfl (by decide +kernel) rfl rfl (Nat.le_of_ble_eq_true rfl) dX5_renew_26 (fun H locs hP hD hS => ?_)
  rw [wx_p_rS (o := o32) hk33] at hP hD
  exact W.vret hx hb hr (fun t ht hW => ⟨⟨_, rfl, hJ.trans hE.symm, by rw [ht]; exact hP, va_K.moved hW.alike hK, hD⟩, hS.F ht⟩) hS.2.2 dX5_renew_29
