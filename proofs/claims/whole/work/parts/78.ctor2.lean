/-! a call over a part of a world -/
theorem w_join {D : va_G} {wr wc w1 : va_W} {A : Nat → Prop} {H H1 : Heap} (hP : va_P D vwCl (wr ++ wc) H) (hD : va_D A (wr ++ wc)) (hk1 : ∀ a : Nat, a < H.size → ¬ va_A wc H.size a → H1[a]? = H[a]?) (hP1 : va_P D vwCl w1 H1) (hD1 : va_D (va_A wc H.size) w1) (hF : ∀ b, va_A wc H.size b → A b) : va_P D vwCl (wr ++ w1) H1 ∧ va_D A (wr ++ w1) := by
  have hPw : va_P D vwCl wr H := fun k p hk => hP k p (ap_getl hk)
  have ne : ∀ (k : Nat) (p : Nat × va_E), wr[k]? = some p → ¬ va_A wc H.size p.1 := by
    intro k p hk h
    rcases h with ⟨i, e2, hi⟩ | h
    · have h1 : (wr ++ wc)[k]? = some p := ap_getl hk
      have h2 : (wr ++ wc)[wr.length + i]? = some (p.1, e2) := (ap_get rfl).trans hi
      have h3 := hD.1 k (wr.length + i) p (p.1, e2) h1 h2 rfl
      have hl := (List.getElem?_eq_some_iff.mp hk).1
      omega
    · exact absurd ((hPw k p hk).lt) (Nat.not_lt.mpr h)
  refine ⟨va_P.app (hPw.kept (fun k p hk => hk1 p.1 ((hPw k p hk).lt) (ne k p hk))) hP1, va_D.app ⟨fun i j p q hi hj e => hD.1 i j p q (ap_getl hi) (ap_getl hj) e, fun k q hk => hD.2 k q (ap_getl hk)⟩ (hD1.weaken (fun _ _ _ h => hF _ h)) (fun i j p r hi hj => ?_)⟩
  intro e
  apply ne i p hi
  rw [e]
  exact hD1.2 j r hj
section CLG
variable {p : Program} {l : Launch} {e : Env} {R : Room} {s : State} {m : MethodId} {args : Array Value} {below : List Frame} {meth : Method} {c : Code} {H H0 : Heap} {locs : List Loc} {cells slots mc ms pc : Nat} {Q : State → Prop} {ls : Array Slot} {rest st0 : List Value} {a : Array Value} {A : Nat → Prop} {D : va_G} {tys : List (ClassId × FieldType)} {wr wc : va_W}
theorem w_freeG (hD : va_D A (wr ++ wc)) (hS : va_S A H0 H locs) (hA : ∀ q, H0.size ≤ q → A q) : ∀ b, va_A wc H.size b → A b := by
  intro b h
  rcases h with ⟨i, e2, hi⟩ | h
  · exact hD.2 (wr.length + i) (b, e2) ((ap_get rfl).trans hi)
  · exact hA b (Nat.le_trans hS.1 h)
theorem cl_gi {S : Type} {post : Int32 → S → Prop} {W1 : S → va_W} (hr : va_Run p l e R s m args below meth c H locs cells slots mc ms (F0 m pc ls st0) rest (va_Qi post (fun u t => wO D tys (va_A wc H.size) (W1 u) t) (va_A wc H.size) a) (va_A wc H.size)) (hP : va_P D vwCl (wr ++ wc) H) (hD : va_D A (wr ++ wc)) (hS : va_S A H0 H locs) (hA : ∀ q, H0.size ≤ q → A q)
    (kk : ∀ (r : Int32) (u : S) (H1 : Heap) (locs1 : List Loc), post r u → va_P D vwCl (wr ++ W1 u) H1 → va_D A (wr ++ W1 u) → va_S A H0 H1 locs1 → W p l e R s m args below meth c H1 locs1 (cells + mc) (slots + ms) Q (F0 m (pc + 3) ls (.int r :: rest))) : W p l e R s m args below meth c H locs cells slots Q (F0 m pc ls st0) := by
  have hF := w_freeG hD hS hA
  refine va_calli hr hS (fun b _ h => hF b h) hF (fun r u t H1 locs1 ht hvm hw hB hz1 hk1 hS => ?_)
  obtain ⟨hP1, -, hD1⟩ := hB
  rw [ht] at hP1
  obtain ⟨a1, a2⟩ := w_join hP hD hk1 hP1 hD1 hF
  exact kk r u H1 locs1 hw a1 a2 hS
theorem cl_gl {S : Type} {post : Int64 → S → Prop} {W1 : S → va_W} (hr : va_Run p l e R s m args below meth c H locs cells slots mc ms (F0 m pc ls st0) rest (va_Ql post (fun u t => wO D tys (va_A wc H.size) (W1 u) t) (va_A wc H.size) a) (va_A wc H.size)) (hP : va_P D vwCl (wr ++ wc) H) (hD : va_D A (wr ++ wc)) (hS : va_S A H0 H locs) (hA : ∀ q, H0.size ≤ q → A q)
    (kk : ∀ (r : Int64) (u : S) (H1 : Heap) (locs1 : List Loc), post r u → va_P D vwCl (wr ++ W1 u) H1 → va_D A (wr ++ W1 u) → va_S A H0 H1 locs1 → W p l e R s m args below meth c H1 locs1 (cells + mc) (slots + ms) Q (F0 m (pc + 3) ls (.long r :: rest))) : W p l e R s m args below meth c H locs cells slots Q (F0 m pc ls st0) := by
  have hF := w_freeG hD hS hA
  refine va_calll hr hS (fun b _ h => hF b h) hF (fun r u t H1 locs1 ht hvm hw hB hz1 hk1 hS => ?_)
  obtain ⟨hP1, -, hD1⟩ := hB
  rw [ht] at hP1
  obtain ⟨a1, a2⟩ := w_join hP hD hk1 hP1 hD1 hF
  exact kk r u H1 locs1 hw a1 a2 hS
theorem cl_gv {S : Type} {post : S → Prop} {W1 : S → va_W} (hr : va_Run p l e R s m args below meth c H locs cells slots mc ms (F0 m pc ls st0) rest (va_Qv post (fun u t => wO D tys (va_A wc H.size) (W1 u) t) (va_A wc H.size) a) (va_A wc H.size)) (hP : va_P D vwCl (wr ++ wc) H) (hD : va_D A (wr ++ wc)) (hS : va_S A H0 H locs) (hA : ∀ q, H0.size ≤ q → A q)
    (kk : ∀ (u : S) (H1 : Heap) (locs1 : List Loc), post u → va_P D vwCl (wr ++ W1 u) H1 → va_D A (wr ++ W1 u) → va_S A H0 H1 locs1 → W p l e R s m args below meth c H1 locs1 (cells + mc) (slots + ms) Q (F0 m (pc + 3) ls rest)) : W p l e R s m args below meth c H locs cells slots Q (F0 m pc ls st0) := by
  have hF := w_freeG hD hS hA
  refine va_callv hr hS (fun b _ h => hF b h) hF (fun u t H1 locs1 ht hvm hw hB hz1 hk1 hS => ?_)
  obtain ⟨hP1, -, hD1⟩ := hB
  rw [ht] at hP1
  obtain ⟨a1, a2⟩ := w_join hP hD hk1 hP1 hD1 hF
  exact kk u H1 locs1 hw a1 a2 hS
end CLG
set_option linter.constructorNameAsVariable false in
set_option maxHeartbeats 8000000 in
set_option maxRecDepth 100000 in
theorem qX5_init (l : Launch) (dC : Nat → ClassId) (dI : Nat → Nat → Nat) (cy : Nat → ClassId) (h0 sz : Nat) : Met l yX5_init wsX5_init ({ frames := 1, cells := 1, slots := 16, locals := 12 }) (va_Pc [.ref h0] (wI (dC, dI) (tyA cy) [(h0, .inr (3, [.null, .int 0]))] sz)) (va_Qv (fun _ : Nat => True) (fun u t => wO (dC, dI) (tyA cy) (va_A [(h0, .inr (3, [.null, .int 0]))] sz) [(h0, .inr (3, [.ref u, .int (-1)])), (u, .inl (cy 1, 16, .inr (.inl (fun _ => (0 : Int64)))))] t) (va_A [(h0, .inr (3, [.null, .int 0]))] sz)) 1 16 (va_A [(h0, .inr (3, [.null, .int 0]))] sz) := by
  refine Met.ofW (cc := cX5_init) (maxL := 1) (ret := none) (by decide) rfl ?_
  intro p e s m args below meth c s₁ B hml hv
  obtain ⟨rfl, hsz, hP, hK, hD0, hk⟩ := hv
  have hx := B.exec
  have hb := B.bytes
  have hr := B.returns
  have hts := atoms_spec (ws := wsX5_init) B.pre
  have hown : s.vm.findClass RX5 = some m.cls := findClass_of_methodNamed B.named
  have hlocks := B.notSynchronized
  have hin : meth.name = "<init>" := (name_of_methodNamed B.named B.method).1
  subst hsz
  have hD := hD0.self (sz := s.heap.size)
  generalize hAe : va_A [(h0, .inr (3, [.null, .int 0]))] s.heap.size = A at hD ⊢
  have hA : ∀ q : Nat, s.heap.size ≤ q → A q := fun q h => by rw [← hAe]; exact Or.inr h
  obtain ⟨H, hHe⟩ : ∃ H, s.heap = H := ⟨_, rfl⟩
  have hP : va_P (dC, dI) vwCl [(h0, .inr (3, [.null, .int 0]))] H := by rw [← hHe]; exact hP
  have hS : va_S A s.heap H [] := by rw [← hHe]; exact va_S.rf
  rw [w_heap hHe]
  have hi_wsX50 : ∀ w ∈ wsX50, w ∈ wsX5_init := fun _ h => List.mem_cons_of_mem _ (List.mem_append_right _ h)
  have hl := lv_entry ([.ref h0]) (n := 1) (Nat.le_of_ble_eq_true rfl)
  rw [lg_entry_eq]
  generalize (lg_sl ([.ref h0]) ++ List.replicate (1 - (lg_sl ([.ref h0])).length) Slot.unset).toArray = ls at hl ⊢
  have hl : lv_has ls 1 [(0, .ref h0)] := hl
  refine lv_aload_n hx hb dX5_init_0 rfl (lv_at hl 0 rfl) ?_
  refine W.objInit hx hb hown (hts (.methodLink RX5 3 objectInit) (by decide +kernel)) (hts (.instanceMethod objectInit) (by decide +kernel)) (hts (.code objectInit ⟨#[0xb1]⟩ 1 none) (by decide +kernel)) rfl (by rw [hml]; exact hl.1) rfl dX5_init_1 (Nat.le_of_ble_eq_true rfl) (Nat.le_of_ble_eq_true rfl) ?_
  refine W.eq (g2 := F0 m 4 ls []) rfl ?_
  refine lv_aload_n hx hb dX5_init_4 rfl (lv_at hl 0 rfl) ?_
  refine lv_bipush (v := (16 : Int32)) hx hb dX5_init_5 (by decide) ?_
  refine va_newa (D := (dC, dI)) (atype := .long) (ty := .long) (a0 := (16, .inr (.inl (fun _ => (0 : Int64))))) (n := 16) (N' := 16) hx hb (hts (.arrayClass .long) (by decide +kernel)) rfl hK hP hD hS hA (fun _ => rfl) (by decide) rfl (by decide) (Nat.le_of_ble_eq_true rfl) (Nat.le_of_ble_eq_true rfl) dX5_init_7 (fun q1 cA H hK1 hP hD hS => ?_)
  have hc : cA = cy 1 := ty_uniq hK1 (i := 8) (j := 1) rfl rfl
  subst hc
  have hP : va_P (dC, dI) vwCl [(h0, .inr (3, [.null, .int 0])), (q1, .inl (cy 1, 16, .inr (.inl (fun _ => (0 : Int64)))))] H := hP
  have hD : va_D A [(h0, .inr (3, [.null, .int 0])), (q1, .inl (cy 1, 16, .inr (.inl (fun _ => (0 : Int64)))))] := hD
  refine va_putF (D := (dC, dI)) (ci := 3) (v := .ref q1) (ty := .array .long) (C := RX5) (T := TX5) (N := 2) hx hb hts hi_wsX50 tyX5 tyX5_ok nmX5 hown hK hP hD hS 0 rfl rfl 0 (by decide) (hts (.fieldLink RX5 9 "OrreryDials$Row" "places" "[J") (by decide +kernel)) (fun _ h9 => h9) rfl hin rfl (by decide +kernel) rfl rfl (Nat.le_of_ble_eq_true rfl) dX5_init_9 (fun H locs hP hD hS => ?_)
  have hP : va_P (dC, dI) vwCl [(h0, .inr (3, [.ref q1, .int 0])), (q1, .inl (cy 1, 16, .inr (.inl (fun _ => (0 : Int64)))))] H := hP
  have hD : va_D A [(h0, .inr (3, [.ref q1, .int 0])), (q1, .inl (cy 1, 16, .inr (.inl (fun _ => (0 : Int64)))))] := hD
  refine lv_aload_n hx hb dX5_init_12 rfl (lv_at hl 0 rfl) ?_
  refine lv_iconst (v := (-1 : Int32)) hx hb dX5_init_13 (by decide) ?_
  refine va_put (D := (dC, dI)) (ci := 3) (v := .int (-1)) (ty := .int) (C := RX5) (T := TX5) (N := 2) hx hb hts hi_wsX50 tyX5 tyX5_ok nmX5 hown hK hP hD hS 0 rfl rfl 1 (by decide) (hts (.fieldLink RX5 15 "OrreryDials$Row" "size" "I") (by decide +kernel)) (fun _ h9 => h9) rfl (by decide +kernel) rfl rfl (Nat.le_of_ble_eq_true rfl) dX5_init_14 (fun H locs hP hD hS => ?_)
  have hP : va_P (dC, dI) vwCl [(h0, .inr (3, [.ref q1, .int (-1)])), (q1, .inl (cy 1, 16, .inr (.inl (fun _ => (0 : Int64)))))] H := hP
  have hD : va_D A [(h0, .inr (3, [.ref q1, .int (-1)])), (q1, .inl (cy 1, 16, .inr (.inl (fun _ => (0 : Int64)))))] := hD
  refine W.widen (k := 1) (n := 16) (Nat.le_of_ble_eq_true rfl) (Nat.le_of_ble_eq_true rfl) ?_
  exact W.vret hx hb hr (fun t ht hW => ⟨⟨q1, rfl, trivial, by rw [ht]; exact hP, va_K.moved hW.alike hK, hD⟩, hS.F ht⟩) hS.2.2 dX5_init_17
