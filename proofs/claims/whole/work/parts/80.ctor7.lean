/-! the class is made -/
def o_new : Os := (0, fun _ => 0, fun _ => 0, fun _ => 0, fun _ => 0, 0, fun _ => 0, fun _ => 0, fun _ => 0, fun _ => 0, fun _ => none, fun _ => none, fun _ => -1, fun _ _ => 0, 0, 0, fun _ => 0)
def wj_h (cy : Nat → ClassId) (x : Nat) (ad : Nat → Nat) (f : Nat → Option Nat) : va_W := [(x, .inr (5, [.ref (ad 1), .int 0, .ref (ad 2), .int 0, .ref (ad 3), .ref (ad 4), .ref (ad 5), .long 0, .int 0, .ref (ad 6)])), (ad 1, .inl (cy 5, 12, .inr (.inr (.inr (.inr (fun _ => none)))))), (ad 2, .inl (cy 6, 20, .inr (.inr (.inr (.inr (fun _ => none)))))), (ad 3, .inl (cy 6, 6, .inr (.inr (.inr (.inr (fun _ => none)))))), (ad 4, .inl (cy 6, 8, .inr (.inr (.inr (.inr (fun _ => none)))))), (ad 5, .inl (cy 7, 16, .inr (.inr (.inr (.inr f))))), (ad 6, .inl (cy 0, 5, .inl (fun _ => (0 : Int32))))]
def wj_r (ad : Nat → Nat) (j : Nat) : va_W := (List.range j).map (fun i => (ad (300 + i), .inr (3, [.ref (ad (400 + i)), .int (-1)])))
def wj_a (cy : Nat → ClassId) (ad : Nat → Nat) (j : Nat) : va_W := (List.range j).map (fun i => (ad (400 + i), .inl (cy 1, 16, .inr (.inl (fun _ => (0 : Int64))))))
def WJ (cy : Nat → ClassId) (x : Nat) (ad : Nat → Nat) (j : Nat) : va_W := wj_h cy x ad (fun i => if i < j then some (ad (300 + i)) else none) ++ (wj_r ad j ++ wj_a cy ad j)
section GI
variable {cy : Nat → ClassId} {x : Nat} {ad : Nat → Nat}
theorem ls_mv3 {α : Type} (h r a : List α) (n b : α) : (h ++ (r ++ a) ++ [n, b]).Perm (h ++ ((r ++ [n]) ++ (a ++ [b]))) := by
  rw [List.append_assoc, List.append_assoc, List.append_assoc]
  refine List.Perm.append_left h (List.Perm.append_left r ?_)
  show (a ++ ([n] ++ [b])).Perm ([n] ++ (a ++ [b]))
  rw [← List.append_assoc, ← List.append_assoc]
  exact List.Perm.append_right [b] List.perm_append_comm
theorem ls_mv3E {α : Type} {L h r a : List α} {n b : α} (e : L = h ++ (r ++ a) ++ [n, b]) : L.Perm (h ++ ((r ++ [n]) ++ (a ++ [b]))) := by
  rw [e]
  exact ls_mv3 h r a n b
theorem wj_step {j : Nat} (hj : j < 16) (q q' : Nat) : ((WJ cy x ad j ++ ([(q, .inr (3, [.ref q', .int (-1)])), (q', .inl (cy 1, 16, .inr (.inl (fun _ => (0 : Int64)))))] : va_W) : va_W).set 5 (ad 5, .inl (cy 7, 16, .inr (.inr (.inr (.inr (va_up (fun i => if i < j then some (ad (300 + i)) else none) j (some q)))))))).Perm (WJ cy x (va_up (va_up ad (300 + j) q) (400 + j) q') (j + 1)) := by
  have n1 : ∀ i, i ≠ 300 + j → i ≠ 400 + j → va_up (va_up ad (300 + j) q) (400 + j) q' i = ad i := fun i h1 h2 => by rw [va_up_ne _ _ h2, va_up_ne _ _ h1]
  have n3 : va_up (va_up ad (300 + j) q) (400 + j) q' (300 + j) = q := by rw [va_up_ne _ _ (by omega), va_up_self]
  have n4 : va_up (va_up ad (300 + j) q) (400 + j) q' (400 + j) = q' := va_up_self _ _ _
  generalize va_up (va_up ad (300 + j) q) (400 + j) q' = ad' at n1 n3 n4 ⊢
  have d5 : (fun i => if i < j + 1 then some (ad' (300 + i)) else none) = va_up (fun i => if i < j then some (ad (300 + i)) else none) j (some q) := by
    funext i
    show (if i < j + 1 then some (ad' (300 + i)) else none) = (if i = j then some q else if i < j then some (ad (300 + i)) else none)
    by_cases h1 : i = j
    · rw [if_pos (by omega), if_pos h1, h1, n3]
    · by_cases h2 : i < j
      · rw [if_pos (by omega), if_neg h1, if_pos h2, n1 _ (by omega) (by omega)]
      · rw [if_neg (by omega), if_neg h1, if_neg h2]
  have e1 : wj_r ad' (j + 1) = wj_r ad j ++ [(q, .inr (3, [.ref q', .int (-1)]))] := by
    unfold wj_r
    rw [List.range_succ, List.map_append]
    congr 1
    · apply List.map_congr_left
      intro i hi
      have hi := List.mem_range.mp hi
      rw [n1 _ (by omega) (by omega), n1 _ (by omega) (by omega)]
    · show [(ad' (300 + j), (.inr (3, [.ref (ad' (400 + j)), .int (-1)]) : va_E))] = _
      rw [n3, n4]
  have e2 : wj_a cy ad' (j + 1) = wj_a cy ad j ++ [(q', .inl (cy 1, 16, .inr (.inl (fun _ => (0 : Int64)))))] := by
    unfold wj_a
    rw [List.range_succ, List.map_append]
    congr 1
    · apply List.map_congr_left
      intro i hi
      have hi := List.mem_range.mp hi
      rw [n1 _ (by omega) (by omega)]
    · show [(ad' (400 + j), (.inl (cy 1, 16, .inr (.inl (fun _ => (0 : Int64)))) : va_E))] = _
      rw [n4]
  have e3 : wj_h cy x ad' (va_up (fun i => if i < j then some (ad (300 + i)) else none) j (some q)) = wj_h cy x ad (va_up (fun i => if i < j then some (ad (300 + i)) else none) j (some q)) := by
    unfold wj_h
    rw [n1 1 (by omega) (by omega), n1 2 (by omega) (by omega), n1 3 (by omega) (by omega), n1 4 (by omega) (by omega), n1 5 (by omega) (by omega), n1 6 (by omega) (by omega)]
  have e4 : WJ cy x ad' (j + 1) = wj_h cy x ad' (fun i => if i < j + 1 then some (ad' (300 + i)) else none) ++ (wj_r ad' (j + 1) ++ wj_a cy ad' (j + 1)) := rfl
  rw [e4, d5, e1, e2, e3]
  exact ls_mv3E rfl
end GI
section LP
variable {p : Program} {l : Launch} {e : Env} {R : Room} {s : State} {m : MethodId} {args : Array Value} {below : List Frame} {meth : Method} {c : Code} {H0 : Heap} {Q : State → Prop} {A : Nat → Prop} {dC : Nat → ClassId} {dI : Nat → Nat → Nat} {cy : Nat → ClassId} {x : Nat}
set_option maxHeartbeats 8000000 in
set_option maxRecDepth 100000 in
theorem init_loop (hx : p.tables.exec = Jvm.exec) (hb : c.code = cX7_init) (hml : c.maxLocals = 2) (hown : s.vm.findClass RX7 = some m.cls) (hts : ∀ w ∈ wsX7_init, w.before args s = true) (hK : va_K (dC, dI) vwCl (tyA cy) s) (hk : kX s) (hA : ∀ q, H0.size ≤ q → A q) (hRc : 38 ≤ R.cells) (hRs : 355 ≤ R.slots) (hRf : 3 ≤ R.frames) (hRl : 60 ≤ R.locals)
    (fin : ∀ (ad : Nat → Nat) (H : Heap) (locs : List Loc) (ls : Array Slot), va_P (dC, dI) vwCl (WJ cy x ad 16) H → va_D A (WJ cy x ad 16) → va_S A H0 H locs → W p l e R s m args below meth c H locs 38 355 Q (F0 m 106 ls [])) :
    ∀ (n j : Nat), j + n = 16 → ∀ (ad : Nat → Nat) (H : Heap) (locs : List Loc) (ls : Array Slot), lv_has ls 2 [(1, .int (nI j)), (0, .ref x)] → va_P (dC, dI) vwCl (WJ cy x ad j) H → va_D A (WJ cy x ad j) → va_S A H0 H locs → W p l e R s m args below meth c H locs (6 + 2 * j) (67 + 18 * j) Q (F0 m 78 ls []) := by
  have hi_wsX70 : ∀ w ∈ wsX70, w ∈ wsX7_init := fun _ h => List.mem_cons_of_mem _ (List.mem_append_left _ (List.mem_append_right _ h))
  have hi_wsX50 : ∀ w ∈ wsX50, w ∈ wsX7_init := fun _ h => List.mem_cons_of_mem _ (List.mem_append_right _ h)
  intro n
  induction n with
  | zero =>
    intro j hj ad H locs ls hl hP hD hS
    have hj16 : j = 16 := by omega
    subst hj16
    refine lv_iload_n hx hb dX7_init_78 rfl (lv_at hl 0 rfl) ?_
    refine lv_aload_n hx hb dX7_init_79 rfl (lv_at hl 1 rfl) ?_
    refine va_get (D := (dC, dI)) (ci := 5) (v := .ref (ad 5)) (C := RX7) (T := TX7) (N := 10) (fs := [.ref (ad 1), .int 0, .ref (ad 2), .int 0, .ref (ad 3), .ref (ad 4), .ref (ad 5), .long 0, .int 0, .ref (ad 6)]) hx hb hts hi_wsX70 hown hK hP 0 rfl rfl 6 (by decide) (hts (.fieldLink RX7 36 "OrreryDials" "rows" "[LOrreryDials$Row;") (by decide +kernel)) (fun _ h9 => h9) rfl dX7_init_80 ?_
    refine va_alen (v := (16 : Int32)) hx hb hK hP 5 7 rfl rfl rfl dX7_init_83 ?_
    refine lv_icmp_ge (tgt := 106) hx hb dX7_init_84 (by decide) (fun cq => ?_) (fun cq => absurd (show (16 : Int32) ≤ nI 16 by decide) cq)
    exact fin ad H locs ls hP hD hS
  | succ n ih =>
    intro j hj ad H locs ls hl hP hD hS
    have hj16 : j < 16 := by omega
    refine lv_iload_n hx hb dX7_init_78 rfl (lv_at hl 0 rfl) ?_
    refine lv_aload_n hx hb dX7_init_79 rfl (lv_at hl 1 rfl) ?_
    refine va_get (D := (dC, dI)) (ci := 5) (v := .ref (ad 5)) (C := RX7) (T := TX7) (N := 10) (fs := [.ref (ad 1), .int 0, .ref (ad 2), .int 0, .ref (ad 3), .ref (ad 4), .ref (ad 5), .long 0, .int 0, .ref (ad 6)]) hx hb hts hi_wsX70 hown hK hP 0 rfl rfl 6 (by decide) (hts (.fieldLink RX7 36 "OrreryDials" "rows" "[LOrreryDials$Row;") (by decide +kernel)) (fun _ h9 => h9) rfl dX7_init_80 ?_
    refine va_alen (v := nI 16) hx hb hK hP 5 7 rfl rfl rfl dX7_init_83 ?_
    refine lv_icmp_ge (tgt := 106) hx hb dX7_init_84 (by decide) (fun cq => absurd cq (nI_ge hj16 (by decide))) (fun cq => ?_)
    refine lv_aload_n hx hb dX7_init_87 rfl (lv_at hl 1 rfl) ?_
    refine va_get (D := (dC, dI)) (ci := 5) (v := .ref (ad 5)) (C := RX7) (T := TX7) (N := 10) (fs := [.ref (ad 1), .int 0, .ref (ad 2), .int 0, .ref (ad 3), .ref (ad 4), .ref (ad 5), .long 0, .int 0, .ref (ad 6)]) hx hb hts hi_wsX70 hown hK hP 0 rfl rfl 6 (by decide) (hts (.fieldLink RX7 36 "OrreryDials" "rows" "[LOrreryDials$Row;") (by decide +kernel)) (fun _ h9 => h9) rfl dX7_init_88 ?_
    refine lv_iload_n hx hb dX7_init_91 rfl (lv_at hl 0 rfl) ?_
    refine va_new (D := (dC, dI)) (ci := 3) (fs := [.null, .int 0]) (C := RX5) (T := TX5) (N := 2) hx hb hts hi_wsX50 tyX5 tyX5_ok hown (hts (.classLink RX7 34 RX5) (by decide +kernel)) (hts (.instantiable RX5 2) (by decide +kernel)) (hts (.initialized RX5) (by decide +kernel)) hK hP hD hS hA rfl (fun j hj => by rcases (show j = 0 ∨ j = 1 by omega) with rfl | rfl <;> rfl) (by omega) (by omega) dX7_init_92 (fun q H hP hD hS => ?_)
    refine lv_dup hx hb dX7_init_95 rfl ?_
    refine cl_gv (wr := WJ cy x ad j) (wc := [(q, .inr (3, [.null, .int 0]))]) (va_runIN (As := []) (rest := [.ref q, .int (nI j), .ref (ad 5)]) ⟨hx, hb, hml, hown, hts⟩ (qX5_init l dC dI cy q H.size) ⟨va_cnB 0 hts gX7_init_X5_init_n51 rfl rfl rfl hk.2.2.2.2.2.2.2.2.2.1 (hts (.initialized RX5) (by decide +kernel)) (by decide +kernel) ⟨by show 1 + 1 ≤ R.frames; omega, by show 8 + (1 + 11) + 12 ≤ R.locals; omega⟩, rfl, hts (.instanceMethod yX5_init) (by decide +kernel)⟩ (pS hK (tl_P hP) (tl_D hD) hk) rfl rfl hl.1 rfl (lv_room (Nat.le_of_ble_eq_true rfl)) dX7_init_96 ⟨by omega, by omega⟩) hP hD hS hA (fun q' H locs _ hP hD hS => ?_)
    refine va_astq hx hb hK hP hD hS 5 7 ((WJ cy x ad j).length + 0) 3 (r := (RX5, TX5, 2)) (v := q) (vs := [.ref q', .int (-1)]) (ap_getl rfl) rfl ((ap_get rfl).trans rfl) rfl (nI_in hj16 (by decide)) dX7_init_99 (fun H locs hP hD hS => ?_)
    rw [nI_clamp (by omega)] at hP hD
    have hP := va_P_perm (wj_step (cy := cy) (x := x) (ad := ad) hj16 q q') hP
    have hD := va_D_perm (wj_step (cy := cy) (x := x) (ad := ad) hj16 q q') hD
    refine lv_iinc (v := nI (j + 1)) (lv' := [(1, .int (nI (j + 1))), (0, .ref x)]) hx hb dX7_init_100 hl (k := 0) rfl (nI_1 _) (by decide) rfl (fun ls hl => ?_)
    refine lv_goto (tgt := 78) hx hb dX7_init_103 (by decide) ?_
    refine W.cs (cells' := 6 + 2 * (j + 1)) (slots' := 67 + 18 * (j + 1)) (by omega) (by omega) ?_
    exact ih (j + 1) (by omega) _ H locs ls hl hP hD hS
end LP
set_option linter.constructorNameAsVariable false in
set_option maxHeartbeats 8000000 in
set_option maxRecDepth 100000 in
theorem qX7_init (l : Launch) (dC : Nat → ClassId) (dI : Nat → Nat → Nat) (cy : Nat → ClassId) (h0 sz : Nat) : Met l yX7_init wsX7_init ({ frames := 3, cells := 38, slots := 355, locals := 60 }) (va_Pc [.ref h0] (wI (dC, dI) (tyA cy) [(h0, .inr (5, [.null, .int 0, .null, .int 0, .null, .null, .null, .long 0, .int 0, .null]))] sz)) (va_Qv (fun _ : Nat → Nat => True) (fun u t => wO (dC, dI) (tyA cy) (va_A [(h0, .inr (5, [.null, .int 0, .null, .int 0, .null, .null, .null, .long 0, .int 0, .null]))] sz) (WX cy h0 u o_new) t) (va_A [(h0, .inr (5, [.null, .int 0, .null, .int 0, .null, .null, .null, .long 0, .int 0, .null]))] sz)) 38 355 (va_A [(h0, .inr (5, [.null, .int 0, .null, .int 0, .null, .null, .null, .long 0, .int 0, .null]))] sz) := by
  refine Met.ofW (cc := cX7_init) (maxL := 2) (ret := none) (by decide) rfl ?_
  intro p e s m args below meth c s₁ B hml hv
  obtain ⟨rfl, hsz, hP, hK, hD0, hk⟩ := hv
  have hx := B.exec
  have hb := B.bytes
  have hr := B.returns
  have hts := atoms_spec (ws := wsX7_init) B.pre
  have hown : s.vm.findClass RX7 = some m.cls := findClass_of_methodNamed B.named
  have hlocks := B.notSynchronized
  have hin : meth.name = "<init>" := (name_of_methodNamed B.named B.method).1
  subst hsz
  have hD := hD0.self (sz := s.heap.size)
  generalize hAe : va_A [(h0, .inr (5, [.null, .int 0, .null, .int 0, .null, .null, .null, .long 0, .int 0, .null]))] s.heap.size = A at hD ⊢
  have hA : ∀ q : Nat, s.heap.size ≤ q → A q := fun q h => by rw [← hAe]; exact Or.inr h
  obtain ⟨H, hHe⟩ : ∃ H, s.heap = H := ⟨_, rfl⟩
  have hP : va_P (dC, dI) vwCl [(h0, .inr (5, [.null, .int 0, .null, .int 0, .null, .null, .null, .long 0, .int 0, .null]))] H := by rw [← hHe]; exact hP
  have hS : va_S A s.heap H [] := by rw [← hHe]; exact va_S.rf
  rw [w_heap hHe]
  have hi_wsX70 : ∀ w ∈ wsX70, w ∈ wsX7_init := fun _ h => List.mem_cons_of_mem _ (List.mem_append_left _ (List.mem_append_right _ h))
  have hi_wsX50 : ∀ w ∈ wsX50, w ∈ wsX7_init := fun _ h => List.mem_cons_of_mem _ (List.mem_append_right _ h)
  have hl := lv_entry ([.ref h0]) (n := 2) (Nat.le_of_ble_eq_true rfl)
  rw [lg_entry_eq]
  generalize (lg_sl ([.ref h0]) ++ List.replicate (2 - (lg_sl ([.ref h0])).length) Slot.unset).toArray = ls at hl ⊢
  have hl : lv_has ls 2 [(0, .ref h0)] := hl
  obtain ⟨-, -, -, -, -, -, k7, k8, k9, -, -⟩ := id hk
  refine lv_aload_n hx hb dX7_init_0 rfl (lv_at hl 0 rfl) ?_
  refine W.objInit hx hb hown (hts (.methodLink RX7 1 objectInit) (by decide +kernel)) (hts (.instanceMethod objectInit) (by decide +kernel)) (hts (.code objectInit ⟨#[0xb1]⟩ 1 none) (by decide +kernel)) rfl (by rw [hml]; exact hl.1) rfl dX7_init_1 (Nat.le_of_ble_eq_true rfl) (Nat.le_of_ble_eq_true rfl) ?_
  refine W.eq (g2 := F0 m 4 ls []) rfl ?_
  refine lv_aload_n hx hb dX7_init_4 rfl (lv_at hl 0 rfl) ?_
  refine lv_bipush (v := (12 : Int32)) hx hb dX7_init_5 (by decide) ?_
  refine va_newq (D := (dC, dI)) hx hb hown (hts (.classLink RX7 9 RX1) (by decide +kernel)) k7 hK hP hD hS hA (n := 12) (N' := 12) (by decide) rfl (by decide) (Nat.le_of_ble_eq_true rfl) (Nat.le_of_ble_eq_true rfl) dX7_init_7 (fun q1 cA H hK1 hP hD hS => ?_)
  have hc : cA = cy 5 := ty_uniq hK1 (i := 8) (j := 5) rfl rfl
  subst hc
  clear hK1
  have hP : va_P (dC, dI) vwCl [(h0, .inr (5, [.null, .int 0, .null, .int 0, .null, .null, .null, .long 0, .int 0, .null])), (q1, .inl (cy 5, 12, .inr (.inr (.inr (.inr (fun _ => none))))))] H := hP
  have hD : va_D A [(h0, .inr (5, [.null, .int 0, .null, .int 0, .null, .null, .null, .long 0, .int 0, .null])), (q1, .inl (cy 5, 12, .inr (.inr (.inr (.inr (fun _ => none))))))] := hD
  refine va_putF (D := (dC, dI)) (ci := 5) (v := .ref q1) (ty := .array (.object "OrreryDials$Dial")) (C := RX7) (T := TX7) (N := 10) hx hb hts hi_wsX70 tyX7 tyX7_ok nmX7 hown hK hP hD hS 0 rfl rfl 0 (by decide) (hts (.fieldLink RX7 11 "OrreryDials" "dials" "[LOrreryDials$Dial;") (by decide +kernel)) (fun _ h9 => h9) rfl hin rfl (by decide +kernel) rfl rfl (Nat.le_of_ble_eq_true rfl) dX7_init_10 (fun H locs hP hD hS => ?_)
  have hP : va_P (dC, dI) vwCl [(h0, .inr (5, [.ref q1, .int 0, .null, .int 0, .null, .null, .null, .long 0, .int 0, .null])), (q1, .inl (cy 5, 12, .inr (.inr (.inr (.inr (fun _ => none))))))] H := hP
  have hD : va_D A [(h0, .inr (5, [.ref q1, .int 0, .null, .int 0, .null, .null, .null, .long 0, .int 0, .null])), (q1, .inl (cy 5, 12, .inr (.inr (.inr (.inr (fun _ => none))))))] := hD
  refine lv_aload_n hx hb dX7_init_13 rfl (lv_at hl 0 rfl) ?_
  refine lv_iconst (v := (0 : Int32)) hx hb dX7_init_14 (by decide) ?_
  refine va_put (D := (dC, dI)) (ci := 5) (v := .int 0) (ty := .int) (C := RX7) (T := TX7) (N := 10) hx hb hts hi_wsX70 tyX7 tyX7_ok nmX7 hown hK hP hD hS 0 rfl rfl 1 (by decide) (hts (.fieldLink RX7 15 "OrreryDials" "dialCount" "I") (by decide +kernel)) (fun _ h9 => h9) rfl (by decide +kernel) rfl rfl (Nat.le_of_ble_eq_true rfl) dX7_init_15 (fun H locs hP hD hS => ?_)
  have hP : va_P (dC, dI) vwCl [(h0, .inr (5, [.ref q1, .int 0, .null, .int 0, .null, .null, .null, .long 0, .int 0, .null])), (q1, .inl (cy 5, 12, .inr (.inr (.inr (.inr (fun _ => none))))))] H := hP
  have hD : va_D A [(h0, .inr (5, [.ref q1, .int 0, .null, .int 0, .null, .null, .null, .long 0, .int 0, .null])), (q1, .inl (cy 5, 12, .inr (.inr (.inr (.inr (fun _ => none))))))] := hD
  refine lv_aload_n hx hb dX7_init_18 rfl (lv_at hl 0 rfl) ?_
  refine lv_bipush (v := (20 : Int32)) hx hb dX7_init_19 (by decide) ?_
  refine va_newq (D := (dC, dI)) hx hb hown (hts (.classLink RX7 19 RX2) (by decide +kernel)) k8 hK hP hD hS hA (n := 20) (N' := 20) (by decide) rfl (by decide) (Nat.le_of_ble_eq_true rfl) (Nat.le_of_ble_eq_true rfl) dX7_init_21 (fun q2 cA H hK1 hP hD hS => ?_)
  have hc : cA = cy 6 := ty_uniq hK1 (i := 8) (j := 6) rfl rfl
  subst hc
  clear hK1
  have hP : va_P (dC, dI) vwCl [(h0, .inr (5, [.ref q1, .int 0, .null, .int 0, .null, .null, .null, .long 0, .int 0, .null])), (q1, .inl (cy 5, 12, .inr (.inr (.inr (.inr (fun _ => none)))))), (q2, .inl (cy 6, 20, .inr (.inr (.inr (.inr (fun _ => none))))))] H := hP
  have hD : va_D A [(h0, .inr (5, [.ref q1, .int 0, .null, .int 0, .null, .null, .null, .long 0, .int 0, .null])), (q1, .inl (cy 5, 12, .inr (.inr (.inr (.inr (fun _ => none)))))), (q2, .inl (cy 6, 20, .inr (.inr (.inr (.inr (fun _ => none))))))] := hD
  refine va_putF (D := (dC, dI)) (ci := 5) (v := .ref q2) (ty := .array (.object "OrreryDials$Drive")) (C := RX7) (T := TX7) (N := 10) hx hb hts hi_wsX70 tyX7 tyX7_ok nmX7 hown hK hP hD hS 0 rfl rfl 2 (by decide) (hts (.fieldLink RX7 21 "OrreryDials" "drives" "[LOrreryDials$Drive;") (by decide +kernel)) (fun _ h9 => h9) rfl hin rfl (by decide +kernel) rfl rfl (Nat.le_of_ble_eq_true rfl) dX7_init_24 (fun H locs hP hD hS => ?_)
  have hP : va_P (dC, dI) vwCl [(h0, .inr (5, [.ref q1, .int 0, .ref q2, .int 0, .null, .null, .null, .long 0, .int 0, .null])), (q1, .inl (cy 5, 12, .inr (.inr (.inr (.inr (fun _ => none)))))), (q2, .inl (cy 6, 20, .inr (.inr (.inr (.inr (fun _ => none))))))] H := hP
  have hD : va_D A [(h0, .inr (5, [.ref q1, .int 0, .ref q2, .int 0, .null, .null, .null, .long 0, .int 0, .null])), (q1, .inl (cy 5, 12, .inr (.inr (.inr (.inr (fun _ => none)))))), (q2, .inl (cy 6, 20, .inr (.inr (.inr (.inr (fun _ => none))))))] := hD
  refine lv_aload_n hx hb dX7_init_27 rfl (lv_at hl 0 rfl) ?_
  refine lv_iconst (v := (0 : Int32)) hx hb dX7_init_28 (by decide) ?_
  refine va_put (D := (dC, dI)) (ci := 5) (v := .int 0) (ty := .int) (C := RX7) (T := TX7) (N := 10) hx hb hts hi_wsX70 tyX7 tyX7_ok nmX7 hown hK hP hD hS 0 rfl rfl 3 (by decide) (hts (.fieldLink RX7 25 "OrreryDials" "driveCount" "I") (by decide +kernel)) (fun _ h9 => h9) rfl (by decide +kernel) rfl rfl (Nat.le_of_ble_eq_true rfl) dX7_init_29 (fun H locs hP hD hS => ?_)
  have hP : va_P (dC, dI) vwCl [(h0, .inr (5, [.ref q1, .int 0, .ref q2, .int 0, .null, .null, .null, .long 0, .int 0, .null])), (q1, .inl (cy 5, 12, .inr (.inr (.inr (.inr (fun _ => none)))))), (q2, .inl (cy 6, 20, .inr (.inr (.inr (.inr (fun _ => none))))))] H := hP
  have hD : va_D A [(h0, .inr (5, [.ref q1, .int 0, .ref q2, .int 0, .null, .null, .null, .long 0, .int 0, .null])), (q1, .inl (cy 5, 12, .inr (.inr (.inr (.inr (fun _ => none)))))), (q2, .inl (cy 6, 20, .inr (.inr (.inr (.inr (fun _ => none))))))] := hD
  refine lv_aload_n hx hb dX7_init_32 rfl (lv_at hl 0 rfl) ?_
  refine lv_bipush (v := (6 : Int32)) hx hb dX7_init_33 (by decide) ?_
  refine va_newq (D := (dC, dI)) hx hb hown (hts (.classLink RX7 19 RX2) (by decide +kernel)) k8 hK hP hD hS hA (n := 6) (N' := 6) (by decide) rfl (by decide) (Nat.le_of_ble_eq_true rfl) (Nat.le_of_ble_eq_true rfl) dX7_init_35 (fun q3 cA H hK1 hP hD hS => ?_)
  have hc : cA = cy 6 := ty_uniq hK1 (i := 8) (j := 6) rfl rfl
  subst hc
  clear hK1
  have hP : va_P (dC, dI) vwCl [(h0, .inr (5, [.ref q1, .int 0, .ref q2, .int 0, .null, .null, .null, .long 0, .int 0, .null])), (q1, .inl (cy 5, 12, .inr (.inr (.inr (.inr (fun _ => none)))))), (q2, .inl (cy 6, 20, .inr (.inr (.inr (.inr (fun _ => none)))))), (q3, .inl (cy 6, 6, .inr (.inr (.inr (.inr (fun _ => none))))))] H := hP
  have hD : va_D A [(h0, .inr (5, [.ref q1, .int 0, .ref q2, .int 0, .null, .null, .null, .long 0, .int 0, .null])), (q1, .inl (cy 5, 12, .inr (.inr (.inr (.inr (fun _ => none)))))), (q2, .inl (cy 6, 20, .inr (.inr (.inr (.inr (fun _ => none)))))), (q3, .inl (cy 6, 6, .inr (.inr (.inr (.inr (fun _ => none))))))] := hD
  refine va_putF (D := (dC, dI)) (ci := 5) (v := .ref q3) (ty := .array (.object "OrreryDials$Drive")) (C := RX7) (T := TX7) (N := 10) hx hb hts hi_wsX70 tyX7 tyX7_ok nmX7 hown hK hP hD hS 0 rfl rfl 4 (by decide) (hts (.fieldLink RX7 28 "OrreryDials" "slots" "[LOrreryDials$Drive;") (by decide +kernel)) (fun _ h9 => h9) rfl hin rfl (by decide +kernel) rfl rfl (Nat.le_of_ble_eq_true rfl) dX7_init_38 (fun H locs hP hD hS => ?_)
  have hP : va_P (dC, dI) vwCl [(h0, .inr (5, [.ref q1, .int 0, .ref q2, .int 0, .ref q3, .null, .null, .long 0, .int 0, .null])), (q1, .inl (cy 5, 12, .inr (.inr (.inr (.inr (fun _ => none)))))), (q2, .inl (cy 6, 20, .inr (.inr (.inr (.inr (fun _ => none)))))), (q3, .inl (cy 6, 6, .inr (.inr (.inr (.inr (fun _ => none))))))] H := hP
  have hD : va_D A [(h0, .inr (5, [.ref q1, .int 0, .ref q2, .int 0, .ref q3, .null, .null, .long 0, .int 0, .null])), (q1, .inl (cy 5, 12, .inr (.inr (.inr (.inr (fun _ => none)))))), (q2, .inl (cy 6, 20, .inr (.inr (.inr (.inr (fun _ => none)))))), (q3, .inl (cy 6, 6, .inr (.inr (.inr (.inr (fun _ => none))))))] := hD
  refine lv_aload_n hx hb dX7_init_41 rfl (lv_at hl 0 rfl) ?_
  refine lv_bipush (v := (8 : Int32)) hx hb dX7_init_42 (by decide) ?_
  refine va_newq (D := (dC, dI)) hx hb hown (hts (.classLink RX7 19 RX2) (by decide +kernel)) k8 hK hP hD hS hA (n := 8) (N' := 8) (by decide) rfl (by decide) (Nat.le_of_ble_eq_true rfl) (Nat.le_of_ble_eq_true rfl) dX7_init_44 (fun q4 cA H hK1 hP hD hS => ?_)
  have hc : cA = cy 6 := ty_uniq hK1 (i := 8) (j := 6) rfl rfl
  subst hc
  clear hK1
  have hP : va_P (dC, dI) vwCl [(h0, .inr (5, [.ref q1, .int 0, .ref q2, .int 0, .ref q3, .null, .null, .long 0, .int 0, .null])), (q1, .inl (cy 5, 12, .inr (.inr (.inr (.inr (fun _ => none)))))), (q2, .inl (cy 6, 20, .inr (.inr (.inr (.inr (fun _ => none)))))), (q3, .inl (cy 6, 6, .inr (.inr (.inr (.inr (fun _ => none)))))), (q4, .inl (cy 6, 8, .inr (.inr (.inr (.inr (fun _ => none))))))] H := hP
  have hD : va_D A [(h0, .inr (5, [.ref q1, .int 0, .ref q2, .int 0, .ref q3, .null, .null, .long 0, .int 0, .null])), (q1, .inl (cy 5, 12, .inr (.inr (.inr (.inr (fun _ => none)))))), (q2, .inl (cy 6, 20, .inr (.inr (.inr (.inr (fun _ => none)))))), (q3, .inl (cy 6, 6, .inr (.inr (.inr (.inr (fun _ => none)))))), (q4, .inl (cy 6, 8, .inr (.inr (.inr (.inr (fun _ => none))))))] := hD
  refine va_putF (D := (dC, dI)) (ci := 5) (v := .ref q4) (ty := .array (.object "OrreryDials$Drive")) (C := RX7) (T := TX7) (N := 10) hx hb hts hi_wsX70 tyX7 tyX7_ok nmX7 hown hK hP hD hS 0 rfl rfl 5 (by decide) (hts (.fieldLink RX7 31 "OrreryDials" "shaftPlaces" "[LOrreryDials$Drive;") (by decide +kernel)) (fun _ h9 => h9) rfl hin rfl (by decide +kernel) rfl rfl (Nat.le_of_ble_eq_true rfl) dX7_init_47 (fun H locs hP hD hS => ?_)
  have hP : va_P (dC, dI) vwCl [(h0, .inr (5, [.ref q1, .int 0, .ref q2, .int 0, .ref q3, .ref q4, .null, .long 0, .int 0, .null])), (q1, .inl (cy 5, 12, .inr (.inr (.inr (.inr (fun _ => none)))))), (q2, .inl (cy 6, 20, .inr (.inr (.inr (.inr (fun _ => none)))))), (q3, .inl (cy 6, 6, .inr (.inr (.inr (.inr (fun _ => none)))))), (q4, .inl (cy 6, 8, .inr (.inr (.inr (.inr (fun _ => none))))))] H := hP
  have hD : va_D A [(h0, .inr (5, [.ref q1, .int 0, .ref q2, .int 0, .ref q3, .ref q4, .null, .long 0, .int 0, .null])), (q1, .inl (cy 5, 12, .inr (.inr (.inr (.inr (fun _ => none)))))), (q2, .inl (cy 6, 20, .inr (.inr (.inr (.inr (fun _ => none)))))), (q3, .inl (cy 6, 6, .inr (.inr (.inr (.inr (fun _ => none)))))), (q4, .inl (cy 6, 8, .inr (.inr (.inr (.inr (fun _ => none))))))] := hD
  refine lv_aload_n hx hb dX7_init_50 rfl (lv_at hl 0 rfl) ?_
  refine lv_bipush (v := (16 : Int32)) hx hb dX7_init_51 (by decide) ?_
  refine va_newq (D := (dC, dI)) hx hb hown (hts (.classLink RX7 34 RX5) (by decide +kernel)) k9 hK hP hD hS hA (n := 16) (N' := 16) (by decide) rfl (by decide) (Nat.le_of_ble_eq_true rfl) (Nat.le_of_ble_eq_true rfl) dX7_init_53 (fun q5 cA H hK1 hP hD hS => ?_)
  have hc : cA = cy 7 := ty_uniq hK1 (i := 8) (j := 7) rfl rfl
  subst hc
  clear hK1
  have hP : va_P (dC, dI) vwCl [(h0, .inr (5, [.ref q1, .int 0, .ref q2, .int 0, .ref q3, .ref q4, .null, .long 0, .int 0, .null])), (q1, .inl (cy 5, 12, .inr (.inr (.inr (.inr (fun _ => none)))))), (q2, .inl (cy 6, 20, .inr (.inr (.inr (.inr (fun _ => none)))))), (q3, .inl (cy 6, 6, .inr (.inr (.inr (.inr (fun _ => none)))))), (q4, .inl (cy 6, 8, .inr (.inr (.inr (.inr (fun _ => none)))))), (q5, .inl (cy 7, 16, .inr (.inr (.inr (.inr (fun _ => none))))))] H := hP
  have hD : va_D A [(h0, .inr (5, [.ref q1, .int 0, .ref q2, .int 0, .ref q3, .ref q4, .null, .long 0, .int 0, .null])), (q1, .inl (cy 5, 12, .inr (.inr (.inr (.inr (fun _ => none)))))), (q2, .inl (cy 6, 20, .inr (.inr (.inr (.inr (fun _ => none)))))), (q3, .inl (cy 6, 6, .inr (.inr (.inr (.inr (fun _ => none)))))), (q4, .inl (cy 6, 8, .inr (.inr (.inr (.inr (fun _ => none)))))), (q5, .inl (cy 7, 16, .inr (.inr (.inr (.inr (fun _ => none))))))] := hD
  refine va_putF (D := (dC, dI)) (ci := 5) (v := .ref q5) (ty := .array (.object "OrreryDials$Row")) (C := RX7) (T := TX7) (N := 10) hx hb hts hi_wsX70 tyX7 tyX7_ok nmX7 hown hK hP hD hS 0 rfl rfl 6 (by decide) (hts (.fieldLink RX7 36 "OrreryDials" "rows" "[LOrreryDials$Row;") (by decide +kernel)) (fun _ h9 => h9) rfl hin rfl (by decide +kernel) rfl rfl (Nat.le_of_ble_eq_true rfl) dX7_init_56 (fun H locs hP hD hS => ?_)
  have hP : va_P (dC, dI) vwCl [(h0, .inr (5, [.ref q1, .int 0, .ref q2, .int 0, .ref q3, .ref q4, .ref q5, .long 0, .int 0, .null])), (q1, .inl (cy 5, 12, .inr (.inr (.inr (.inr (fun _ => none)))))), (q2, .inl (cy 6, 20, .inr (.inr (.inr (.inr (fun _ => none)))))), (q3, .inl (cy 6, 6, .inr (.inr (.inr (.inr (fun _ => none)))))), (q4, .inl (cy 6, 8, .inr (.inr (.inr (.inr (fun _ => none)))))), (q5, .inl (cy 7, 16, .inr (.inr (.inr (.inr (fun _ => none))))))] H := hP
  have hD : va_D A [(h0, .inr (5, [.ref q1, .int 0, .ref q2, .int 0, .ref q3, .ref q4, .ref q5, .long 0, .int 0, .null])), (q1, .inl (cy 5, 12, .inr (.inr (.inr (.inr (fun _ => none)))))), (q2, .inl (cy 6, 20, .inr (.inr (.inr (.inr (fun _ => none)))))), (q3, .inl (cy 6, 6, .inr (.inr (.inr (.inr (fun _ => none)))))), (q4, .inl (cy 6, 8, .inr (.inr (.inr (.inr (fun _ => none)))))), (q5, .inl (cy 7, 16, .inr (.inr (.inr (.inr (fun _ => none))))))] := hD
  refine lv_aload_n hx hb dX7_init_59 rfl (lv_at hl 0 rfl) ?_
  refine lv_lconst (v := (0 : Int64)) hx hb dX7_init_60 (by decide) ?_
  refine va_put (D := (dC, dI)) (ci := 5) (v := .long 0) (ty := .long) (C := RX7) (T := TX7) (N := 10) hx hb hts hi_wsX70 tyX7 tyX7_ok nmX7 hown hK hP hD hS 0 rfl rfl 7 (by decide) (hts (.fieldLink RX7 40 "OrreryDials" "seenBits" "J") (by decide +kernel)) (fun _ h9 => h9) rfl (by decide +kernel) rfl rfl (Nat.le_of_ble_eq_true rfl) dX7_init_61 (fun H locs hP hD hS => ?_)
  have hP : va_P (dC, dI) vwCl [(h0, .inr (5, [.ref q1, .int 0, .ref q2, .int 0, .ref q3, .ref q4, .ref q5, .long 0, .int 0, .null])), (q1, .inl (cy 5, 12, .inr (.inr (.inr (.inr (fun _ => none)))))), (q2, .inl (cy 6, 20, .inr (.inr (.inr (.inr (fun _ => none)))))), (q3, .inl (cy 6, 6, .inr (.inr (.inr (.inr (fun _ => none)))))), (q4, .inl (cy 6, 8, .inr (.inr (.inr (.inr (fun _ => none)))))), (q5, .inl (cy 7, 16, .inr (.inr (.inr (.inr (fun _ => none))))))] H := hP
  have hD : va_D A [(h0, .inr (5, [.ref q1, .int 0, .ref q2, .int 0, .ref q3, .ref q4, .ref q5, .long 0, .int 0, .null])), (q1, .inl (cy 5, 12, .inr (.inr (.inr (.inr (fun _ => none)))))), (q2, .inl (cy 6, 20, .inr (.inr (.inr (.inr (fun _ => none)))))), (q3, .inl (cy 6, 6, .inr (.inr (.inr (.inr (fun _ => none)))))), (q4, .inl (cy 6, 8, .inr (.inr (.inr (.inr (fun _ => none)))))), (q5, .inl (cy 7, 16, .inr (.inr (.inr (.inr (fun _ => none))))))] := hD
  refine lv_aload_n hx hb dX7_init_64 rfl (lv_at hl 0 rfl) ?_
  refine lv_iconst (v := (0 : Int32)) hx hb dX7_init_65 (by decide) ?_
  refine va_put (D := (dC, dI)) (ci := 5) (v := .int 0) (ty := .int) (C := RX7) (T := TX7) (N := 10) hx hb hts hi_wsX70 tyX7 tyX7_ok nmX7 hown hK hP hD hS 0 rfl rfl 8 (by decide) (hts (.fieldLink RX7 44 "OrreryDials" "latestFailure" "I") (by decide +kernel)) (fun _ h9 => h9) rfl (by decide +kernel) rfl rfl (Nat.le_of_ble_eq_true rfl) dX7_init_66 (fun H locs hP hD hS => ?_)
  have hP : va_P (dC, dI) vwCl [(h0, .inr (5, [.ref q1, .int 0, .ref q2, .int 0, .ref q3, .ref q4, .ref q5, .long 0, .int 0, .null])), (q1, .inl (cy 5, 12, .inr (.inr (.inr (.inr (fun _ => none)))))), (q2, .inl (cy 6, 20, .inr (.inr (.inr (.inr (fun _ => none)))))), (q3, .inl (cy 6, 6, .inr (.inr (.inr (.inr (fun _ => none)))))), (q4, .inl (cy 6, 8, .inr (.inr (.inr (.inr (fun _ => none)))))), (q5, .inl (cy 7, 16, .inr (.inr (.inr (.inr (fun _ => none))))))] H := hP
  have hD : va_D A [(h0, .inr (5, [.ref q1, .int 0, .ref q2, .int 0, .ref q3, .ref q4, .ref q5, .long 0, .int 0, .null])), (q1, .inl (cy 5, 12, .inr (.inr (.inr (.inr (fun _ => none)))))), (q2, .inl (cy 6, 20, .inr (.inr (.inr (.inr (fun _ => none)))))), (q3, .inl (cy 6, 6, .inr (.inr (.inr (.inr (fun _ => none)))))), (q4, .inl (cy 6, 8, .inr (.inr (.inr (.inr (fun _ => none)))))), (q5, .inl (cy 7, 16, .inr (.inr (.inr (.inr (fun _ => none))))))] := hD
  refine lv_aload_n hx hb dX7_init_69 rfl (lv_at hl 0 rfl) ?_
  refine lv_iconst (v := (5 : Int32)) hx hb dX7_init_70 (by decide) ?_
  refine va_newa (D := (dC, dI)) (atype := .int) (ty := .int) (a0 := (5, .inl (fun _ => (0 : Int32)))) (n := 5) (N' := 5) hx hb (hts (.arrayClass .int) (by decide +kernel)) rfl hK hP hD hS hA (fun _ => rfl) (by decide) rfl (by decide) (Nat.le_of_ble_eq_true rfl) (Nat.le_of_ble_eq_true rfl) dX7_init_71 (fun q6 cA H hK1 hP hD hS => ?_)
  have hc : cA = cy 0 := ty_uniq hK1 (i := 8) (j := 0) rfl rfl
  subst hc
  clear hK1
  have hP : va_P (dC, dI) vwCl [(h0, .inr (5, [.ref q1, .int 0, .ref q2, .int 0, .ref q3, .ref q4, .ref q5, .long 0, .int 0, .null])), (q1, .inl (cy 5, 12, .inr (.inr (.inr (.inr (fun _ => none)))))), (q2, .inl (cy 6, 20, .inr (.inr (.inr (.inr (fun _ => none)))))), (q3, .inl (cy 6, 6, .inr (.inr (.inr (.inr (fun _ => none)))))), (q4, .inl (cy 6, 8, .inr (.inr (.inr (.inr (fun _ => none)))))), (q5, .inl (cy 7, 16, .inr (.inr (.inr (.inr (fun _ => none)))))), (q6, .inl (cy 0, 5, .inl (fun _ => (0 : Int32))))] H := hP
  have hD : va_D A [(h0, .inr (5, [.ref q1, .int 0, .ref q2, .int 0, .ref q3, .ref q4, .ref q5, .long 0, .int 0, .null])), (q1, .inl (cy 5, 12, .inr (.inr (.inr (.inr (fun _ => none)))))), (q2, .inl (cy 6, 20, .inr (.inr (.inr (.inr (fun _ => none)))))), (q3, .inl (cy 6, 6, .inr (.inr (.inr (.inr (fun _ => none)))))), (q4, .inl (cy 6, 8, .inr (.inr (.inr (.inr (fun _ => none)))))), (q5, .inl (cy 7, 16, .inr (.inr (.inr (.inr (fun _ => none)))))), (q6, .inl (cy 0, 5, .inl (fun _ => (0 : Int32))))] := hD
  refine va_putF (D := (dC, dI)) (ci := 5) (v := .ref q6) (ty := .array .int) (C := RX7) (T := TX7) (N := 10) hx hb hts hi_wsX70 tyX7 tyX7_ok nmX7 hown hK hP hD hS 0 rfl rfl 9 (by decide) (hts (.fieldLink RX7 47 "OrreryDials" "failureCounts" "[I") (by decide +kernel)) (fun _ h9 => h9) rfl hin rfl (by decide +kernel) rfl rfl (Nat.le_of_ble_eq_true rfl) dX7_init_73 (fun H locs hP hD hS => ?_)
  have hP : va_P (dC, dI) vwCl [(h0, .inr (5, [.ref q1, .int 0, .ref q2, .int 0, .ref q3, .ref q4, .ref q5, .long 0, .int 0, .ref q6])), (q1, .inl (cy 5, 12, .inr (.inr (.inr (.inr (fun _ => none)))))), (q2, .inl (cy 6, 20, .inr (.inr (.inr (.inr (fun _ => none)))))), (q3, .inl (cy 6, 6, .inr (.inr (.inr (.inr (fun _ => none)))))), (q4, .inl (cy 6, 8, .inr (.inr (.inr (.inr (fun _ => none)))))), (q5, .inl (cy 7, 16, .inr (.inr (.inr (.inr (fun _ => none)))))), (q6, .inl (cy 0, 5, .inl (fun _ => (0 : Int32))))] H := hP
  have hD : va_D A [(h0, .inr (5, [.ref q1, .int 0, .ref q2, .int 0, .ref q3, .ref q4, .ref q5, .long 0, .int 0, .ref q6])), (q1, .inl (cy 5, 12, .inr (.inr (.inr (.inr (fun _ => none)))))), (q2, .inl (cy 6, 20, .inr (.inr (.inr (.inr (fun _ => none)))))), (q3, .inl (cy 6, 6, .inr (.inr (.inr (.inr (fun _ => none)))))), (q4, .inl (cy 6, 8, .inr (.inr (.inr (.inr (fun _ => none)))))), (q5, .inl (cy 7, 16, .inr (.inr (.inr (.inr (fun _ => none)))))), (q6, .inl (cy 0, 5, .inl (fun _ => (0 : Int32))))] := hD
  refine lv_iconst (v := (0 : Int32)) hx hb dX7_init_76 (by decide) ?_
  refine lv_istore_n (lv' := [(1, .int (0 : Int32)), (0, .ref h0)]) hx hb dX7_init_77 rfl hl (by decide) rfl (fun ls hl => ?_)
  have e0 : (fun i : Nat => if i < 0 then some ((fun i => match i with | 1 => q1 | 2 => q2 | 3 => q3 | 4 => q4 | 5 => q5 | _ => q6 : Nat → Nat) (300 + i)) else none) = (fun _ => none) := funext fun i => if_neg (Nat.not_lt_zero i)
  refine W.cs (cells' := 6 + 2 * 0) (slots' := 67 + 18 * 0) rfl rfl ?_
  refine init_loop (H0 := s.heap) (A := A) hx hb hml hown hts hK hk hA (Nat.le_of_ble_eq_true rfl) (Nat.le_of_ble_eq_true rfl) (Nat.le_of_ble_eq_true rfl) (Nat.le_of_ble_eq_true rfl) (fun ad H locs ls hP hD hS => ?_) 16 0 rfl (fun i => match i with | 1 => q1 | 2 => q2 | 3 => q3 | 4 => q4 | 5 => q5 | _ => q6) H locs ls hl ?_ ?_ hS
  · have e1 : cx_dr ad o_new = (fun _ => none) := funext fun i => if_neg (Nat.not_lt_zero i)
    have e2 : cx_vr ad o_new = (fun _ => none) := funext fun i => if_neg (Nat.not_lt_zero i)
    have e3 : cx_h cy h0 ad o_new = wj_h cy h0 ad (cx_rr ad) := by
      unfold cx_h
      rw [e1, e2]
      rfl
    have e4 : va_at (dC, dI) vwCl (ad 5, .inl (cy 7, 16, .inr (.inr (.inr (.inr (cx_rr ad)))))) H := ar_cg (f := fun i => if i < 16 then some (ad (300 + i)) else none) (fun j hj => if_pos hj) (hP 5 _ rfl)
    have hP := hP.set hD (p := 5) (a := ad 5) (e0 := .inl (cy 7, 16, .inr (.inr (.inr (.inr (fun i => if i < 16 then some (ad (300 + i)) else none)))))) (H1 := H) rfl e4 (fun _ _ => rfl)
    have hD := hD.set (p := 5) (a := ad 5) (e0 := .inl (cy 7, 16, .inr (.inr (.inr (.inr (fun i => if i < 16 then some (ad (300 + i)) else none)))))) (e := .inl (cy 7, 16, .inr (.inr (.inr (.inr (cx_rr ad)))))) rfl
    have e5 : WX cy h0 ad o_new = wj_h cy h0 ad (cx_rr ad) ++ (wj_r ad 16 ++ wj_a cy ad 16) := by
      rw [← e3]
      rfl
    have hP : va_P (dC, dI) vwCl (wj_h cy h0 ad (cx_rr ad) ++ (wj_r ad 16 ++ wj_a cy ad 16)) H := hP
    have hD : va_D A (wj_h cy h0 ad (cx_rr ad) ++ (wj_r ad 16 ++ wj_a cy ad 16)) := hD
    rw [← e5] at hP hD
    exact W.vret hx hb hr (fun t ht hW => ⟨⟨ad, rfl, trivial, by rw [ht]; exact hP, va_K.moved hW.alike hK, hD⟩, hS.F ht⟩) hS.2.2 dX7_init_106
  · unfold WJ
    rw [e0]
    exact hP
  · unfold WJ
    rw [e0]
    exact hD
