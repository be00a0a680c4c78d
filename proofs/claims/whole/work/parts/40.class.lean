/-! the class's state: how many dials; of each whether it is fine, its rim, place, laps; how many drives; of each its sort, pull, count, gear; slots, shafts; rows: size and places; seen, failure, counts -/
abbrev Os : Type := Nat × (Nat → Int32) × (Nat → Int64) × (Nat → Int64) × (Nat → Int64) × Nat × (Nat → Nat) × (Nat → Int64) × (Nat → Int32) × (Nat → Int32) × (Nat → Option Nat) × (Nat → Option Nat) × (Nat → Int32) × (Nat → Nat → Int64) × Int64 × Int32 × (Nat → Int32)
def c_nd (o : Os) : Nat := o.1
def c_dF (o : Os) : Nat → Int32 := o.2.1
def c_dR (o : Os) : Nat → Int64 := o.2.2.1
def c_dP (o : Os) : Nat → Int64 := o.2.2.2.1
def c_dL (o : Os) : Nat → Int64 := o.2.2.2.2.1
def c_nv (o : Os) : Nat := o.2.2.2.2.2.1
def c_vS (o : Os) : Nat → Nat := o.2.2.2.2.2.2.1
def c_vP (o : Os) : Nat → Int64 := o.2.2.2.2.2.2.2.1
def c_vC (o : Os) : Nat → Int32 := o.2.2.2.2.2.2.2.2.1
def c_vG (o : Os) : Nat → Int32 := o.2.2.2.2.2.2.2.2.2.1
def c_sl (o : Os) : Nat → Option Nat := o.2.2.2.2.2.2.2.2.2.2.1
def c_sh (o : Os) : Nat → Option Nat := o.2.2.2.2.2.2.2.2.2.2.2.1
def c_rS (o : Os) : Nat → Int32 := o.2.2.2.2.2.2.2.2.2.2.2.2.1
def c_rP (o : Os) : Nat → Nat → Int64 := o.2.2.2.2.2.2.2.2.2.2.2.2.2.1
def c_se (o : Os) : Int64 := o.2.2.2.2.2.2.2.2.2.2.2.2.2.2.1
def c_fl (o : Os) : Int32 := o.2.2.2.2.2.2.2.2.2.2.2.2.2.2.2.1
def c_cn (o : Os) : Nat → Int32 := o.2.2.2.2.2.2.2.2.2.2.2.2.2.2.2.2
def t_nd (o : Os) (v : Nat) : Os := (v, c_dF o, c_dR o, c_dP o, c_dL o, c_nv o, c_vS o, c_vP o, c_vC o, c_vG o, c_sl o, c_sh o, c_rS o, c_rP o, c_se o, c_fl o, c_cn o)
def t_dF (o : Os) (v : Nat → Int32) : Os := (c_nd o, v, c_dR o, c_dP o, c_dL o, c_nv o, c_vS o, c_vP o, c_vC o, c_vG o, c_sl o, c_sh o, c_rS o, c_rP o, c_se o, c_fl o, c_cn o)
def t_dR (o : Os) (v : Nat → Int64) : Os := (c_nd o, c_dF o, v, c_dP o, c_dL o, c_nv o, c_vS o, c_vP o, c_vC o, c_vG o, c_sl o, c_sh o, c_rS o, c_rP o, c_se o, c_fl o, c_cn o)
def t_dP (o : Os) (v : Nat → Int64) : Os := (c_nd o, c_dF o, c_dR o, v, c_dL o, c_nv o, c_vS o, c_vP o, c_vC o, c_vG o, c_sl o, c_sh o, c_rS o, c_rP o, c_se o, c_fl o, c_cn o)
def t_dL (o : Os) (v : Nat → Int64) : Os := (c_nd o, c_dF o, c_dR o, c_dP o, v, c_nv o, c_vS o, c_vP o, c_vC o, c_vG o, c_sl o, c_sh o, c_rS o, c_rP o, c_se o, c_fl o, c_cn o)
def t_nv (o : Os) (v : Nat) : Os := (c_nd o, c_dF o, c_dR o, c_dP o, c_dL o, v, c_vS o, c_vP o, c_vC o, c_vG o, c_sl o, c_sh o, c_rS o, c_rP o, c_se o, c_fl o, c_cn o)
def t_vS (o : Os) (v : Nat → Nat) : Os := (c_nd o, c_dF o, c_dR o, c_dP o, c_dL o, c_nv o, v, c_vP o, c_vC o, c_vG o, c_sl o, c_sh o, c_rS o, c_rP o, c_se o, c_fl o, c_cn o)
def t_vP (o : Os) (v : Nat → Int64) : Os := (c_nd o, c_dF o, c_dR o, c_dP o, c_dL o, c_nv o, c_vS o, v, c_vC o, c_vG o, c_sl o, c_sh o, c_rS o, c_rP o, c_se o, c_fl o, c_cn o)
def t_vC (o : Os) (v : Nat → Int32) : Os := (c_nd o, c_dF o, c_dR o, c_dP o, c_dL o, c_nv o, c_vS o, c_vP o, v, c_vG o, c_sl o, c_sh o, c_rS o, c_rP o, c_se o, c_fl o, c_cn o)
def t_vG (o : Os) (v : Nat → Int32) : Os := (c_nd o, c_dF o, c_dR o, c_dP o, c_dL o, c_nv o, c_vS o, c_vP o, c_vC o, v, c_sl o, c_sh o, c_rS o, c_rP o, c_se o, c_fl o, c_cn o)
def t_sl (o : Os) (v : Nat → Option Nat) : Os := (c_nd o, c_dF o, c_dR o, c_dP o, c_dL o, c_nv o, c_vS o, c_vP o, c_vC o, c_vG o, v, c_sh o, c_rS o, c_rP o, c_se o, c_fl o, c_cn o)
def t_sh (o : Os) (v : Nat → Option Nat) : Os := (c_nd o, c_dF o, c_dR o, c_dP o, c_dL o, c_nv o, c_vS o, c_vP o, c_vC o, c_vG o, c_sl o, v, c_rS o, c_rP o, c_se o, c_fl o, c_cn o)
def t_rS (o : Os) (v : Nat → Int32) : Os := (c_nd o, c_dF o, c_dR o, c_dP o, c_dL o, c_nv o, c_vS o, c_vP o, c_vC o, c_vG o, c_sl o, c_sh o, v, c_rP o, c_se o, c_fl o, c_cn o)
def t_rP (o : Os) (v : Nat → Nat → Int64) : Os := (c_nd o, c_dF o, c_dR o, c_dP o, c_dL o, c_nv o, c_vS o, c_vP o, c_vC o, c_vG o, c_sl o, c_sh o, c_rS o, v, c_se o, c_fl o, c_cn o)
def t_se (o : Os) (v : Int64) : Os := (c_nd o, c_dF o, c_dR o, c_dP o, c_dL o, c_nv o, c_vS o, c_vP o, c_vC o, c_vG o, c_sl o, c_sh o, c_rS o, c_rP o, v, c_fl o, c_cn o)
def t_fl (o : Os) (v : Int32) : Os := (c_nd o, c_dF o, c_dR o, c_dP o, c_dL o, c_nv o, c_vS o, c_vP o, c_vC o, c_vG o, c_sl o, c_sh o, c_rS o, c_rP o, c_se o, v, c_cn o)
def t_cn (o : Os) (v : Nat → Int32) : Os := (c_nd o, c_dF o, c_dR o, c_dP o, c_dL o, c_nv o, c_vS o, c_vP o, c_vC o, c_vG o, c_sl o, c_sh o, c_rS o, c_rP o, c_se o, c_fl o, v)
def om {α : Type} (x : Option Nat) (A : α) (B : Nat → α) : α := match x with
  | none => A
  | some d => B d
theorem om_n {α : Type} {A : α} {B : Nat → α} : om none A B = A := rfl
theorem om_s {α : Type} {A : α} {B : Nat → α} {d : Nat} : om (some d) A B = B d := rfl
theorem cs3 {K G : Prop} (a b : Prop) (h0 : a → K → G) (h1 : ¬ a → b → K → G) (h2 : ¬ a → ¬ b → K → G) (k : K) : G := by
  by_cases x : a
  · exact h0 x k
  · by_cases y : b
    · exact h1 x y k
    · exact h2 x y k
theorem rn3 {G : Prop} (a b : Prop) (h0 : a → G) (h1 : ¬ a → b → G) (h2 : ¬ a → ¬ b → G) : G := by
  by_cases x : a
  · exact h0 x
  · by_cases y : b
    · exact h1 x y
    · exact h2 x y
theorem cs2 {K G : Prop} (b : Prop) (h1 : b → K → G) (h2 : ¬ b → K → G) (k : K) : G := by
  by_cases y : b
  · exact h1 y k
  · exact h2 y k
theorem cs3k {p : Program} {l : Launch} {e : Env} {R : Room} {s : State} {m : MethodId} {args : Array Value} {below : List Frame} {meth : Method} {c : Code} {cells slots : Nat} {Q : State → Prop} {g : JFrame} {G : Prop} {P : Heap → Prop} {D : Prop} {A : Nat → Prop} (a b : Prop)
    (h0 : a → (∀ (H : Heap) (locs : List Loc), P H → D → va_S A s.heap H locs → W p l e R s m args below meth c H locs cells slots Q g) → G) (h1 : ¬ a → b → (∀ (H : Heap) (locs : List Loc), P H → D → va_S A s.heap H locs → W p l e R s m args below meth c H locs cells slots Q g) → G) (h2 : ¬ a → ¬ b → (∀ (H : Heap) (locs : List Loc), P H → D → va_S A s.heap H locs → W p l e R s m args below meth c H locs cells slots Q g) → G)
    (k : ∀ (H : Heap) (locs : List Loc), P H → D → va_S A s.heap H locs → W p l e R s m args below meth c H locs cells slots Q g) : G := cs3 a b h0 h1 h2 k
theorem cs2k {p : Program} {l : Launch} {e : Env} {R : Room} {s : State} {m : MethodId} {args : Array Value} {below : List Frame} {meth : Method} {c : Code} {cells slots : Nat} {Q : State → Prop} {g : JFrame} {G : Prop} {P : Heap → Prop} {D : Prop} {A : Nat → Prop} (b : Prop)
    (h1 : b → (∀ (H : Heap) (locs : List Loc), P H → D → va_S A s.heap H locs → W p l e R s m args below meth c H locs cells slots Q g) → G) (h2 : ¬ b → (∀ (H : Heap) (locs : List Loc), P H → D → va_S A s.heap H locs → W p l e R s m args below meth c H locs cells slots Q g) → G)
    (k : ∀ (H : Heap) (locs : List Loc), P H → D → va_S A s.heap H locs → W p l e R s m args below meth c H locs cells slots Q g) : G := cs2 b h1 h2 k
theorem rf_s {p : Program} {l : Launch} {e : Env} {R : Room} {s : State} {m : MethodId} {args : Array Value} {below : List Frame} {meth : Method} {c : Code} {H : Heap} {locs : List Loc} {cells slots pc a : Nat} {Q : State → Prop} {ls : Array Slot} {rest : List Value} {r : Option Nat} (h : r = some a) (k : W p l e R s m args below meth c H locs cells slots Q (F0 m pc ls (.ref a :: rest))) : W p l e R s m args below meth c H locs cells slots Q (F0 m pc ls (va_rf r :: rest)) := by
  rw [h]; exact k
theorem rf_n {p : Program} {l : Launch} {e : Env} {R : Room} {s : State} {m : MethodId} {args : Array Value} {below : List Frame} {meth : Method} {c : Code} {H : Heap} {locs : List Loc} {cells slots pc : Nat} {Q : State → Prop} {ls : Array Slot} {rest : List Value} {r : Option Nat} (h : r = none) (k : W p l e R s m args below meth c H locs cells slots Q (F0 m pc ls (.null :: rest))) : W p l e R s m args below meth c H locs cells slots Q (F0 m pc ls (va_rf r :: rest)) := by
  rw [h]; exact k
def cx_f (ad : Nat → Nat) (o : Os) : List Value := [.ref (ad 1), .int (nI (c_nd o)), .ref (ad 2), .int (nI (c_nv o)), .ref (ad 3), .ref (ad 4), .ref (ad 5), .long (c_se o), .int (c_fl o), .ref (ad 6)]
def cx_dial (o : Os) (i : Nat) : List Value := [.int (c_dF o i), .long (c_dR o i), .long (c_dP o i), .long (c_dL o i)]
def cx_spring (o : Os) (i : Nat) : List Value := [.int (nI i), .long (c_vP o i), .int (c_vC o i)]
def cx_crank (o : Os) (i : Nat) : List Value := [.int (nI i), .long (c_vP o i), .int (c_vC o i), .int (c_vG o i)]
def cx_fly (o : Os) (i : Nat) : List Value := [.int (c_vG o i), .int (nI i), .long (c_vP o i), .int (c_vC o i)]
def cx_drive (o : Os) (i : Nat) : va_E := if c_vS o i = 0 then .inr (4, cx_spring o i) else if c_vS o i = 1 then .inr (0, cx_crank o i) else .inr (2, cx_fly o i)
def cx_row (ad : Nat → Nat) (o : Os) (i : Nat) : List Value := [.ref (ad (400 + i)), .int (c_rS o i)]
def cx_dr (ad : Nat → Nat) (o : Os) : Nat → Option Nat := fun i => if i < c_nd o then some (ad (100 + i)) else none
def cx_vr (ad : Nat → Nat) (o : Os) : Nat → Option Nat := fun i => if i < c_nv o then some (ad (200 + i)) else none
def cx_sr (ad : Nat → Nat) (o : Os) : Nat → Option Nat := fun i => (c_sl o i).map (fun k => ad (200 + k))
def cx_hr (ad : Nat → Nat) (o : Os) : Nat → Option Nat := fun i => (c_sh o i).map (fun k => ad (200 + k))
def cx_rr (ad : Nat → Nat) : Nat → Option Nat := fun i => some (ad (300 + i))
def cx_h (cy : Nat → ClassId) (x : Nat) (ad : Nat → Nat) (o : Os) : va_W := [(x, .inr (5, cx_f ad o)), (ad 1, .inl (cy 5, 12, .inr (.inr (.inr (.inr (cx_dr ad o)))))), (ad 2, .inl (cy 6, 20, .inr (.inr (.inr (.inr (cx_vr ad o)))))), (ad 3, .inl (cy 6, 6, .inr (.inr (.inr (.inr (cx_sr ad o)))))), (ad 4, .inl (cy 6, 8, .inr (.inr (.inr (.inr (cx_hr ad o)))))), (ad 5, .inl (cy 7, 16, .inr (.inr (.inr (.inr (cx_rr ad)))))), (ad 6, .inl (cy 0, 5, .inl (c_cn o)))]
/-- the class's cells -/
def WX (cy : Nat → ClassId) (x : Nat) (ad : Nat → Nat) (o : Os) : va_W := cx_h cy x ad o ++ ((List.range (c_nd o)).map (fun i => (ad (100 + i), .inr (1, cx_dial o i))) ++ ((List.range (c_nv o)).map (fun i => (ad (200 + i), cx_drive o i)) ++ ((List.range 16).map (fun i => (ad (300 + i), .inr (3, cx_row ad o i))) ++ (List.range 16).map (fun i => (ad (400 + i), .inl (cy 1, 16, .inr (.inl (c_rP o i))))))))
theorem rg_get {α : Type} (f : Nat → α) {n i : Nat} (h : i < n) : ((List.range n).map f)[i]? = some (f i) := by
  rw [List.getElem?_map, List.getElem?_range h]; rfl
theorem rg_set {α : Type} (f g : Nat → α) {n i : Nat} (h : i < n) (hg : ∀ j, j ≠ i → g j = f j) : ((List.range n).map f).set i (g i) = (List.range n).map g := by
  apply List.ext_getElem?
  intro j
  rw [List.getElem?_set]
  by_cases e : i = j
  · subst e
    rw [if_pos rfl, if_pos (by simpa using h), rg_get g h]
  · rw [if_neg e, List.getElem?_map, List.getElem?_map]
    cases hj : (List.range n)[j]? with
    | none => rfl
    | some k =>
      obtain ⟨hk, hk2⟩ := List.getElem?_eq_some_iff.mp hj
      rw [List.getElem_range] at hk2
      subst hk2
      rw [Option.map_some, Option.map_some, hg _ (fun q => e q.symm)]
theorem rg_set2 {α : Type} {f : Nat → α} {n i : Nat} {v : α} (g : Nat → α) (h : i < n) (hv : v = g i) (hg : ∀ j, j ≠ i → g j = f j) : ((List.range n).map f).set i v = (List.range n).map g := by
  rw [hv]; exact rg_set f g h hg
theorem rg_len {α : Type} (f : Nat → α) (n : Nat) : ((List.range n).map f).length = n := by simp
theorem ap_get {α : Type} {a b : List α} {k i : Nat} (hk : a.length = k) : (a ++ b)[k + i]? = b[i]? := by
  subst hk
  rw [List.getElem?_append_right (Nat.le_add_right _ _), Nat.add_sub_cancel_left]
theorem ap_set {α : Type} {a b : List α} {k i : Nat} {v : α} (hk : a.length = k) : (a ++ b).set (k + i) v = a ++ b.set i v := by
  subst hk
  rw [List.set_append_right _ _ (Nat.le_add_right _ _), Nat.add_sub_cancel_left]
theorem ap_getl {α : Type} {a b : List α} {i : Nat} {q : α} (h : a[i]? = some q) : (a ++ b)[i]? = some q := by
  rw [List.getElem?_append_left (List.getElem?_eq_some_iff.mp h).1]
  exact h
theorem ap_setl {α : Type} {a b : List α} {i : Nat} {v q : α} (h : a[i]? = some q) : (a ++ b).set i v = a.set i v ++ b := by
  rw [List.set_append_left _ _ (List.getElem?_eq_some_iff.mp h).1]
section WXG
variable {cy : Nat → ClassId} {x : Nat} {ad : Nat → Nat} {o : Os} {i : Nat}
theorem wx_h {k : Nat} {q : Nat × va_E} (h : (cx_h cy x ad o)[k]? = some q) : (WX cy x ad o)[k]? = some q := ap_getl h
theorem wx_dial (h : i < c_nd o) : (WX cy x ad o)[7 + i]? = some (ad (100 + i), .inr (1, cx_dial o i)) := (ap_get rfl).trans (ap_getl (rg_get _ h))
theorem wx_drive (h : i < c_nv o) : (WX cy x ad o)[7 + (c_nd o + i)]? = some (ad (200 + i), cx_drive o i) := (ap_get rfl).trans ((ap_get (by simp)).trans (ap_getl (rg_get _ h)))
theorem wx_row (h : i < 16) : (WX cy x ad o)[7 + (c_nd o + (c_nv o + i))]? = some (ad (300 + i), .inr (3, cx_row ad o i)) := (ap_get rfl).trans ((ap_get (by simp)).trans ((ap_get (by simp)).trans (ap_getl (rg_get _ h))))
theorem wx_arr (h : i < 16) : (WX cy x ad o)[7 + (c_nd o + (c_nv o + (16 + i)))]? = some (ad (400 + i), .inl (cy 1, 16, .inr (.inl (c_rP o i)))) := (ap_get rfl).trans ((ap_get (by simp)).trans ((ap_get (by simp)).trans ((ap_get (by simp)).trans (rg_get _ h))))
theorem wx_spring (h : i < c_nv o) (hs : c_vS o i = 0) : (WX cy x ad o)[7 + (c_nd o + i)]? = some (ad (200 + i), .inr (4, cx_spring o i)) := by
  rw [wx_drive h]; unfold cx_drive; rw [if_pos hs]
theorem wx_crank (h : i < c_nv o) (hs : ¬ c_vS o i = 0) (hs2 : c_vS o i = 1) : (WX cy x ad o)[7 + (c_nd o + i)]? = some (ad (200 + i), .inr (0, cx_crank o i)) := by
  rw [wx_drive h]; unfold cx_drive; rw [if_neg hs, if_pos hs2]
theorem wx_fly (h : i < c_nv o) (hs : ¬ c_vS o i = 0) (hs2 : ¬ c_vS o i = 1) : (WX cy x ad o)[7 + (c_nd o + i)]? = some (ad (200 + i), .inr (2, cx_fly o i)) := by
  rw [wx_drive h]; unfold cx_drive; rw [if_neg hs, if_neg hs2]
theorem wx_p_fl (v : Int32) : (WX cy x ad o).set 0 (x, .inr (5, (cx_f ad o).set 8 (.int v))) = WX cy x ad (t_fl o v) := rfl
theorem wx_p_se (v : Int64) : (WX cy x ad o).set 0 (x, .inr (5, (cx_f ad o).set 7 (.long v))) = WX cy x ad (t_se o v) := rfl
theorem wx_a_cn (f : Nat → Int32) : (WX cy x ad o).set 6 (ad 6, .inl (cy 0, 5, .inl f)) = WX cy x ad (t_cn o f) := rfl
theorem wx_a_sl {n : Nat} {v : Option Nat} : (WX cy x ad o).set 3 (ad 3, .inl (cy 6, 6, .inr (.inr (.inr (.inr (va_up (cx_sr ad o) n (v.map (fun k => ad (200 + k))))))))) = WX cy x ad (t_sl o (va_up (c_sl o) n v)) := by
  have e : va_up (cx_sr ad o) n (v.map (fun k => ad (200 + k))) = cx_sr ad (t_sl o (va_up (c_sl o) n v)) := by
    funext j
    show (if j = n then _ else (c_sl o j).map _) = (if j = n then v else c_sl o j).map _
    split <;> rfl
  rw [e]; try rfl
theorem wx_a_sh {n : Nat} {v : Option Nat} : (WX cy x ad o).set 4 (ad 4, .inl (cy 6, 8, .inr (.inr (.inr (.inr (va_up (cx_hr ad o) n (v.map (fun k => ad (200 + k))))))))) = WX cy x ad (t_sh o (va_up (c_sh o) n v)) := by
  have e : va_up (cx_hr ad o) n (v.map (fun k => ad (200 + k))) = cx_hr ad (t_sh o (va_up (c_sh o) n v)) := by
    funext j
    show (if j = n then _ else (c_sh o j).map _) = (if j = n then v else c_sh o j).map _
    split <;> rfl
  rw [e]; try rfl
theorem wx_a_slN {n : Nat} : (WX cy x ad o).set 3 (ad 3, .inl (cy 6, 6, .inr (.inr (.inr (.inr (va_up (cx_sr ad o) n none)))))) = WX cy x ad (t_sl o (va_up (c_sl o) n none)) := wx_a_sl (v := none)
theorem wx_a_slS {n d : Nat} : (WX cy x ad o).set 3 (ad 3, .inl (cy 6, 6, .inr (.inr (.inr (.inr (va_up (cx_sr ad o) n (some (ad (200 + d)))))))))  = WX cy x ad (t_sl o (va_up (c_sl o) n (some d))) := wx_a_sl (v := some d)
theorem wx_a_shN {n : Nat} : (WX cy x ad o).set 4 (ad 4, .inl (cy 6, 8, .inr (.inr (.inr (.inr (va_up (cx_hr ad o) n none)))))) = WX cy x ad (t_sh o (va_up (c_sh o) n none)) := wx_a_sh (v := none)
theorem wx_a_shS {n d : Nat} : (WX cy x ad o).set 4 (ad 4, .inl (cy 6, 8, .inr (.inr (.inr (.inr (va_up (cx_hr ad o) n (some (ad (200 + d)))))))))  = WX cy x ad (t_sh o (va_up (c_sh o) n (some d))) := wx_a_sh (v := some d)
/-- a dial is written -/
theorem wx_p_dP (h : i < c_nd o) (v : Int64) : (WX cy x ad o).set (7 + i) (ad (100 + i), .inr (1, (cx_dial o i).set 2 (.long v))) = WX cy x ad (t_dP o (va_up (c_dP o) i v)) := by
  have hd : (ad (100 + i), (.inr (1, (cx_dial o i).set 2 (.long v)) : va_E)) = (fun j => (ad (100 + j), (.inr (1, cx_dial (t_dP o (va_up (c_dP o) i v)) j) : va_E))) i := by
    show (_, _) = (_, _)
    have : (cx_dial o i).set 2 (.long v) = cx_dial (t_dP o (va_up (c_dP o) i v)) i := by
      show [_, _, _, _] = [_, _, Value.long (if i = i then v else c_dP o i), _]
      rw [if_pos rfl]; try rfl
    rw [this]
  unfold WX
  rw [ap_set (k := 7) (show (cx_h cy x ad o).length = 7 from rfl), ap_setl (rg_get _ h), rg_set2 (fun j => (ad (100 + j), (.inr (1, cx_dial (t_dP o (va_up (c_dP o) i v)) j) : va_E))) h hd (fun j hj => by
    show (_, _) = (_, _)
    have : cx_dial (t_dP o (va_up (c_dP o) i v)) j = cx_dial o j := by
      show [_, _, Value.long (if j = i then v else c_dP o j), _] = _
      rw [if_neg hj]; try rfl
    rw [this])]
  rfl
theorem wx_p_dL (h : i < c_nd o) (v : Int64) : (WX cy x ad o).set (7 + i) (ad (100 + i), .inr (1, (cx_dial o i).set 3 (.long v))) = WX cy x ad (t_dL o (va_up (c_dL o) i v)) := by
  have hd : (ad (100 + i), (.inr (1, (cx_dial o i).set 3 (.long v)) : va_E)) = (fun j => (ad (100 + j), (.inr (1, cx_dial (t_dL o (va_up (c_dL o) i v)) j) : va_E))) i := by
    show (_, _) = (_, _)
    have : (cx_dial o i).set 3 (.long v) = cx_dial (t_dL o (va_up (c_dL o) i v)) i := by
      show [_, _, _, _] = [_, _, _, Value.long (if i = i then v else c_dL o i)]
      rw [if_pos rfl]; try rfl
    rw [this]
  unfold WX
  rw [ap_set (k := 7) (show (cx_h cy x ad o).length = 7 from rfl), ap_setl (rg_get _ h), rg_set2 (fun j => (ad (100 + j), (.inr (1, cx_dial (t_dL o (va_up (c_dL o) i v)) j) : va_E))) h hd (fun j hj => by
    show (_, _) = (_, _)
    have : cx_dial (t_dL o (va_up (c_dL o) i v)) j = cx_dial o j := by
      show [_, _, _, Value.long (if j = i then v else c_dL o j)] = _
      rw [if_neg hj]; try rfl
    rw [this])]
  rfl
/-- a row's size -/
theorem wx_p_rS (h : i < 16) (v : Int32) : (WX cy x ad o).set (7 + (c_nd o + (c_nv o + i))) (ad (300 + i), .inr (3, (cx_row ad o i).set 1 (.int v))) = WX cy x ad (t_rS o (va_up (c_rS o) i v)) := by
  have hd : (ad (300 + i), (.inr (3, (cx_row ad o i).set 1 (.int v)) : va_E)) = (fun j => (ad (300 + j), (.inr (3, cx_row ad (t_rS o (va_up (c_rS o) i v)) j) : va_E))) i := by
    show (_, _) = (_, _)
    have : (cx_row ad o i).set 1 (.int v) = cx_row ad (t_rS o (va_up (c_rS o) i v)) i := by
      show [_, _] = [_, Value.int (if i = i then v else c_rS o i)]
      rw [if_pos rfl]
    rw [this]
  unfold WX
  rw [ap_set (k := 7) (show (cx_h cy x ad o).length = 7 from rfl), ap_set (rg_len _ _), ap_set (rg_len _ _), ap_setl (rg_get _ h), rg_set2 (fun j => (ad (300 + j), (.inr (3, cx_row ad (t_rS o (va_up (c_rS o) i v)) j) : va_E))) h hd (fun j hj => by
    show (_, _) = (_, _)
    have : cx_row ad (t_rS o (va_up (c_rS o) i v)) j = cx_row ad o j := by
      show [_, Value.int (if j = i then v else c_rS o j)] = _
      rw [if_neg hj]; try rfl
    rw [this])]
  rfl
/-- a row's places -/
theorem wx_a_rP (h : i < 16) (f : Nat → Int64) : (WX cy x ad o).set (7 + (c_nd o + (c_nv o + (16 + i)))) (ad (400 + i), .inl (cy 1, 16, .inr (.inl f))) = WX cy x ad (t_rP o (va_up (c_rP o) i f)) := by
  have hd : (ad (400 + i), (.inl (cy 1, 16, .inr (.inl f)) : va_E)) = (fun j => (ad (400 + j), (.inl (cy 1, 16, .inr (.inl (c_rP (t_rP o (va_up (c_rP o) i f)) j))) : va_E))) i := by
    show (_, _) = (_, _)
    have : c_rP (t_rP o (va_up (c_rP o) i f)) i = f := if_pos rfl
    rw [this]
  unfold WX
  rw [ap_set (k := 7) (show (cx_h cy x ad o).length = 7 from rfl), ap_set (rg_len _ _), ap_set (rg_len _ _), ap_set (rg_len _ _), rg_set2 (fun j => (ad (400 + j), (.inl (cy 1, 16, .inr (.inl (c_rP (t_rP o (va_up (c_rP o) i f)) j))) : va_E))) h hd (fun j hj => by
    show (_, _) = (_, _)
    have : c_rP (t_rP o (va_up (c_rP o) i f)) j = c_rP o j := if_neg hj
    rw [this])]
  rfl
theorem wx_p_vC_spring (h : i < c_nv o) (hs : c_vS o i = 0) (v : Int32) : (WX cy x ad o).set (7 + (c_nd o + i)) (ad (200 + i), .inr (4, (cx_spring o i).set 2 (.int v))) = WX cy x ad (t_vC o (va_up (c_vC o) i v)) := by
  have hd : (ad (200 + i), (.inr (4, (cx_spring o i).set 2 (.int v)) : va_E)) = (fun j => (ad (200 + j), cx_drive (t_vC o (va_up (c_vC o) i v)) j)) i := by
    show (_, _) = (_, cx_drive _ _)
    have : (cx_spring o i).set 2 (.int v) = cx_spring (t_vC o (va_up (c_vC o) i v)) i := by
      show [_, _, _] = [_, _, Value.int (if i = i then v else c_vC o i)]
      rw [if_pos rfl]; try rfl
    rw [this]
    show (_, _) = (_, if c_vS o i = 0 then _ else if c_vS o i = 1 then _ else _)
    rw [if_pos hs]
  unfold WX
  rw [ap_set (k := 7) (show (cx_h cy x ad o).length = 7 from rfl), ap_set (rg_len _ _), ap_setl (rg_get _ h), rg_set2 (fun j => (ad (200 + j), cx_drive (t_vC o (va_up (c_vC o) i v)) j)) h hd (fun j hj => by
    show (_, cx_drive _ _) = (_, cx_drive _ _)
    have : cx_drive (t_vC o (va_up (c_vC o) i v)) j = cx_drive o j := by
      show (if c_vS o j = 0 then _ else if c_vS o j = 1 then _ else _) = (if c_vS o j = 0 then _ else if c_vS o j = 1 then _ else _)
      have e : va_up (c_vC o) i v j = c_vC o j := if_neg hj
      have e1 : cx_spring (t_vC o (va_up (c_vC o) i v)) j = cx_spring o j := by
        first | rfl | (show [_, _, Value.int (va_up (c_vC o) i v j)] = _; rw [e]; try rfl)
      have e2 : cx_crank (t_vC o (va_up (c_vC o) i v)) j = cx_crank o j := by
        first | (show [_, _, Value.int (va_up (c_vC o) i v j), _] = _; rw [e]; try rfl) | (show [_, _, _, Value.int (va_up (c_vC o) i v j)] = _; rw [e]; try rfl)
      have e3 : cx_fly (t_vC o (va_up (c_vC o) i v)) j = cx_fly o j := by
        first | (show [_, _, _, Value.int (va_up (c_vC o) i v j)] = _; rw [e]; try rfl) | (show [Value.int (va_up (c_vC o) i v j), _, _, _] = _; rw [e]; try rfl)
      rw [e1, e2, e3]
    rw [this])]
  rfl
theorem wx_p_vC_crank (h : i < c_nv o) (hs : ¬ c_vS o i = 0) (hs2 : c_vS o i = 1) (v : Int32) : (WX cy x ad o).set (7 + (c_nd o + i)) (ad (200 + i), .inr (0, (cx_crank o i).set 2 (.int v))) = WX cy x ad (t_vC o (va_up (c_vC o) i v)) := by
  have hd : (ad (200 + i), (.inr (0, (cx_crank o i).set 2 (.int v)) : va_E)) = (fun j => (ad (200 + j), cx_drive (t_vC o (va_up (c_vC o) i v)) j)) i := by
    show (_, _) = (_, cx_drive _ _)
    have : (cx_crank o i).set 2 (.int v) = cx_crank (t_vC o (va_up (c_vC o) i v)) i := by
      show [_, _, _, _] = [_, _, Value.int (if i = i then v else c_vC o i), _]
      rw [if_pos rfl]; try rfl
    rw [this]
    show (_, _) = (_, if c_vS o i = 0 then _ else if c_vS o i = 1 then _ else _)
    rw [if_neg hs, if_pos hs2]
  unfold WX
  rw [ap_set (k := 7) (show (cx_h cy x ad o).length = 7 from rfl), ap_set (rg_len _ _), ap_setl (rg_get _ h), rg_set2 (fun j => (ad (200 + j), cx_drive (t_vC o (va_up (c_vC o) i v)) j)) h hd (fun j hj => by
    show (_, cx_drive _ _) = (_, cx_drive _ _)
    have : cx_drive (t_vC o (va_up (c_vC o) i v)) j = cx_drive o j := by
      show (if c_vS o j = 0 then _ else if c_vS o j = 1 then _ else _) = (if c_vS o j = 0 then _ else if c_vS o j = 1 then _ else _)
      have e : va_up (c_vC o) i v j = c_vC o j := if_neg hj
      have e1 : cx_spring (t_vC o (va_up (c_vC o) i v)) j = cx_spring o j := by
        first | rfl | (show [_, _, Value.int (va_up (c_vC o) i v j)] = _; rw [e]; try rfl)
      have e2 : cx_crank (t_vC o (va_up (c_vC o) i v)) j = cx_crank o j := by
        first | (show [_, _, Value.int (va_up (c_vC o) i v j), _] = _; rw [e]; try rfl) | (show [_, _, _, Value.int (va_up (c_vC o) i v j)] = _; rw [e]; try rfl)
      have e3 : cx_fly (t_vC o (va_up (c_vC o) i v)) j = cx_fly o j := by
        first | (show [_, _, _, Value.int (va_up (c_vC o) i v j)] = _; rw [e]; try rfl) | (show [Value.int (va_up (c_vC o) i v j), _, _, _] = _; rw [e]; try rfl)
      rw [e1, e2, e3]
    rw [this])]
  rfl
theorem wx_p_vC_fly (h : i < c_nv o) (hs : ¬ c_vS o i = 0) (hs2 : ¬ c_vS o i = 1) (v : Int32) : (WX cy x ad o).set (7 + (c_nd o + i)) (ad (200 + i), .inr (2, (cx_fly o i).set 3 (.int v))) = WX cy x ad (t_vC o (va_up (c_vC o) i v)) := by
  have hd : (ad (200 + i), (.inr (2, (cx_fly o i).set 3 (.int v)) : va_E)) = (fun j => (ad (200 + j), cx_drive (t_vC o (va_up (c_vC o) i v)) j)) i := by
    show (_, _) = (_, cx_drive _ _)
    have : (cx_fly o i).set 3 (.int v) = cx_fly (t_vC o (va_up (c_vC o) i v)) i := by
      show [_, _, _, _] = [_, _, _, Value.int (if i = i then v else c_vC o i)]
      rw [if_pos rfl]; try rfl
    rw [this]
    show (_, _) = (_, if c_vS o i = 0 then _ else if c_vS o i = 1 then _ else _)
    rw [if_neg hs, if_neg hs2]
  unfold WX
  rw [ap_set (k := 7) (show (cx_h cy x ad o).length = 7 from rfl), ap_set (rg_len _ _), ap_setl (rg_get _ h), rg_set2 (fun j => (ad (200 + j), cx_drive (t_vC o (va_up (c_vC o) i v)) j)) h hd (fun j hj => by
    show (_, cx_drive _ _) = (_, cx_drive _ _)
    have : cx_drive (t_vC o (va_up (c_vC o) i v)) j = cx_drive o j := by
      show (if c_vS o j = 0 then _ else if c_vS o j = 1 then _ else _) = (if c_vS o j = 0 then _ else if c_vS o j = 1 then _ else _)
      have e : va_up (c_vC o) i v j = c_vC o j := if_neg hj
      have e1 : cx_spring (t_vC o (va_up (c_vC o) i v)) j = cx_spring o j := by
        first | rfl | (show [_, _, Value.int (va_up (c_vC o) i v j)] = _; rw [e]; try rfl)
      have e2 : cx_crank (t_vC o (va_up (c_vC o) i v)) j = cx_crank o j := by
        first | (show [_, _, Value.int (va_up (c_vC o) i v j), _] = _; rw [e]; try rfl) | (show [_, _, _, Value.int (va_up (c_vC o) i v j)] = _; rw [e]; try rfl)
      have e3 : cx_fly (t_vC o (va_up (c_vC o) i v)) j = cx_fly o j := by
        first | (show [_, _, _, Value.int (va_up (c_vC o) i v j)] = _; rw [e]; try rfl) | (show [Value.int (va_up (c_vC o) i v j), _, _, _] = _; rw [e]; try rfl)
      rw [e1, e2, e3]
    rw [this])]
  rfl
theorem wx_p_vG_crank (h : i < c_nv o) (hs : ¬ c_vS o i = 0) (hs2 : c_vS o i = 1) (v : Int32) : (WX cy x ad o).set (7 + (c_nd o + i)) (ad (200 + i), .inr (0, (cx_crank o i).set 3 (.int v))) = WX cy x ad (t_vG o (va_up (c_vG o) i v)) := by
  have hd : (ad (200 + i), (.inr (0, (cx_crank o i).set 3 (.int v)) : va_E)) = (fun j => (ad (200 + j), cx_drive (t_vG o (va_up (c_vG o) i v)) j)) i := by
    show (_, _) = (_, cx_drive _ _)
    have : (cx_crank o i).set 3 (.int v) = cx_crank (t_vG o (va_up (c_vG o) i v)) i := by
      show [_, _, _, _] = [_, _, _, Value.int (if i = i then v else c_vG o i)]
      rw [if_pos rfl]; try rfl
    rw [this]
    show (_, _) = (_, if c_vS o i = 0 then _ else if c_vS o i = 1 then _ else _)
    rw [if_neg hs, if_pos hs2]
  unfold WX
  rw [ap_set (k := 7) (show (cx_h cy x ad o).length = 7 from rfl), ap_set (rg_len _ _), ap_setl (rg_get _ h), rg_set2 (fun j => (ad (200 + j), cx_drive (t_vG o (va_up (c_vG o) i v)) j)) h hd (fun j hj => by
    show (_, cx_drive _ _) = (_, cx_drive _ _)
    have : cx_drive (t_vG o (va_up (c_vG o) i v)) j = cx_drive o j := by
      show (if c_vS o j = 0 then _ else if c_vS o j = 1 then _ else _) = (if c_vS o j = 0 then _ else if c_vS o j = 1 then _ else _)
      have e : va_up (c_vG o) i v j = c_vG o j := if_neg hj
      have e1 : cx_spring (t_vG o (va_up (c_vG o) i v)) j = cx_spring o j := by
        first | rfl | (show [_, _, Value.int (va_up (c_vG o) i v j)] = _; rw [e]; try rfl)
      have e2 : cx_crank (t_vG o (va_up (c_vG o) i v)) j = cx_crank o j := by
        first | (show [_, _, Value.int (va_up (c_vG o) i v j), _] = _; rw [e]; try rfl) | (show [_, _, _, Value.int (va_up (c_vG o) i v j)] = _; rw [e]; try rfl)
      have e3 : cx_fly (t_vG o (va_up (c_vG o) i v)) j = cx_fly o j := by
        first | (show [_, _, _, Value.int (va_up (c_vG o) i v j)] = _; rw [e]; try rfl) | (show [Value.int (va_up (c_vG o) i v j), _, _, _] = _; rw [e]; try rfl)
      rw [e1, e2, e3]
    rw [this])]
  rfl
theorem wx_p_vG_fly (h : i < c_nv o) (hs : ¬ c_vS o i = 0) (hs2 : ¬ c_vS o i = 1) (v : Int32) : (WX cy x ad o).set (7 + (c_nd o + i)) (ad (200 + i), .inr (2, (cx_fly o i).set 0 (.int v))) = WX cy x ad (t_vG o (va_up (c_vG o) i v)) := by
  have hd : (ad (200 + i), (.inr (2, (cx_fly o i).set 0 (.int v)) : va_E)) = (fun j => (ad (200 + j), cx_drive (t_vG o (va_up (c_vG o) i v)) j)) i := by
    show (_, _) = (_, cx_drive _ _)
    have : (cx_fly o i).set 0 (.int v) = cx_fly (t_vG o (va_up (c_vG o) i v)) i := by
      show [_, _, _, _] = [Value.int (if i = i then v else c_vG o i), _, _, _]
      rw [if_pos rfl]; try rfl
    rw [this]
    show (_, _) = (_, if c_vS o i = 0 then _ else if c_vS o i = 1 then _ else _)
    rw [if_neg hs, if_neg hs2]
  unfold WX
  rw [ap_set (k := 7) (show (cx_h cy x ad o).length = 7 from rfl), ap_set (rg_len _ _), ap_setl (rg_get _ h), rg_set2 (fun j => (ad (200 + j), cx_drive (t_vG o (va_up (c_vG o) i v)) j)) h hd (fun j hj => by
    show (_, cx_drive _ _) = (_, cx_drive _ _)
    have : cx_drive (t_vG o (va_up (c_vG o) i v)) j = cx_drive o j := by
      show (if c_vS o j = 0 then _ else if c_vS o j = 1 then _ else _) = (if c_vS o j = 0 then _ else if c_vS o j = 1 then _ else _)
      have e : va_up (c_vG o) i v j = c_vG o j := if_neg hj
      have e1 : cx_spring (t_vG o (va_up (c_vG o) i v)) j = cx_spring o j := by
        first | rfl | (show [_, _, Value.int (va_up (c_vG o) i v j)] = _; rw [e]; try rfl)
      have e2 : cx_crank (t_vG o (va_up (c_vG o) i v)) j = cx_crank o j := by
        first | (show [_, _, Value.int (va_up (c_vG o) i v j), _] = _; rw [e]; try rfl) | (show [_, _, _, Value.int (va_up (c_vG o) i v j)] = _; rw [e]; try rfl)
      have e3 : cx_fly (t_vG o (va_up (c_vG o) i v)) j = cx_fly o j := by
        first | (show [_, _, _, Value.int (va_up (c_vG o) i v j)] = _; rw [e]; try rfl) | (show [Value.int (va_up (c_vG o) i v j), _, _, _] = _; rw [e]; try rfl)
      rw [e1, e2, e3]
    rw [this])]
  rfl
end WXG
