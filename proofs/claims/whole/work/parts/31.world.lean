/-! worlds: a method that works over the whole of a world; calls over it -/
/-- what the tables say that no method's words can say: casts between the drives' classes, arrays over the class's own, the rows' hidden constructor -/
def kX (U : State) : Prop := va_Nw (.castable RX0 RX2) U ∧ va_Nw (.castable RX3 RX2) U ∧ va_Nw (.castable RX6 RX2) U ∧ va_Nw (.castable RX0 RX0) U ∧ va_Nw (.castable RX3 RX0) U ∧ va_Nc RX6 RX0 U ∧ va_AO RX1 U ∧ va_AO RX2 U ∧ va_AO RX5 U ∧ va_Nw (.methodLinkNest RX7 51 yX5_init "OrreryDials") U ∧ va_Nw (.declares ⟨"OrreryDials$Drive", "forceAt", "(J)J"⟩) U
theorem kX.moved {s U : State} (hW : s.WarmedH U.vm) (h : kX s) : kX U := by
  obtain ⟨h1, h2, h3, h4, h5, h6, h7, h8, h9, h10, h11⟩ := h
  exact ⟨va_Nw.warmC hW h1, va_Nw.warmC hW h2, va_Nw.warmC hW h3, va_Nw.warmC hW h4, va_Nw.warmC hW h5, h6.moved hW.alike, h7.moved hW.alike, h8.moved hW.alike, h9.moved hW.alike, va_Nw.warmM hW h10, va_Nw.warmD hW h11⟩
theorem kX.calling {U : State} {g : JFrame} {mk : MethodId} {a : Array Value} (h : kX U) : kX (U.calling g mk a) := by
  obtain ⟨h1, h2, h3, h4, h5, h6, h7, h8, h9, h10, h11⟩ := h
  exact ⟨va_Nw.same rfl rfl h1, va_Nw.same rfl rfl h2, va_Nw.same rfl rfl h3, va_Nw.same rfl rfl h4, va_Nw.same rfl rfl h5, h6.moved (U := U.calling g mk a) (Vm.Alike.refl U.vm), h7.moved (U := U.calling g mk a) (Vm.Alike.refl U.vm), h8.moved (U := U.calling g mk a) (Vm.Alike.refl U.vm), h9.moved (U := U.calling g mk a) (Vm.Alike.refl U.vm), va_Nw.same rfl rfl h10, va_Nw.same rfl rfl h11⟩
def wI (D : va_G) (tys : List (ClassId × FieldType)) (ws : va_W) (sz : Nat) (U : State) : Prop := U.heap.size = sz ∧ va_P D vwCl ws U.heap ∧ va_K D vwCl tys U ∧ va_D (fun _ => True) ws ∧ kX U
def wO (D : va_G) (tys : List (ClassId × FieldType)) (A : Nat → Prop) (ws : va_W) (t : State) : Prop := va_P D vwCl ws t.heap ∧ va_K D vwCl tys t ∧ va_D A ws
theorem wI_blind {D : va_G} {tys : List (ClassId × FieldType)} {ws : va_W} {sz : Nat} {av : List Value} : FrameBlind (va_Pc av (wI D tys ws sz)) := fun a U g mk q => by
  obtain ⟨q0, q1, qP, qK, qD, qk⟩ := q
  exact ⟨q0, q1, qP, va_K.moved (u := U) (U := U.calling g mk a) (Vm.Alike.refl U.vm) qK, qD, qk.calling⟩
theorem pS {s : State} {H : Heap} {D : va_G} {tys : List (ClassId × FieldType)} {ws : va_W} {A : Nat → Prop} {As : List Value} (hK : va_K D vwCl tys s) (hP : va_P D vwCl ws H) (hD : va_D A ws) (hk : kX s) : PreS s H (va_Pc As (wI D tys ws H.size)) As :=
  ⟨wI_blind, fun U hU hW => ⟨rfl, by rw [hU], by rw [hU]; exact hP, va_K.moved hW.alike hK, hD.weaken (fun _ _ _ _ => trivial), hk.moved hW⟩⟩
theorem pV {s : State} {H : Heap} {D : va_G} {tys : List (ClassId × FieldType)} {ws : va_W} {A : Nat → Prop} {As : List Value} {b q0 ci : Nat} {q : vw_C} {fs : List Value} (hK : va_K D vwCl tys s) (hP : va_P D vwCl ws H) (hD : va_D A ws) (hk : kX s) (he : ws[q0]? = some (b, .inr (ci, fs))) (hc : vwCl[ci]? = some q) : PreV s H q.1 b (va_Pc (.ref b :: As) (wI D tys ws H.size)) As :=
  ⟨wI_blind, va_recv hK hP hc he, fun U hU hW => ⟨rfl, by rw [hU], by rw [hU]; exact hP, va_K.moved hW.alike hK, hD.weaken (fun _ _ _ _ => trivial), hk.moved hW⟩⟩
theorem w_free {A0 : Nat → Prop} {ws : va_W} {H0 H : Heap} {locs : List Loc} (hD : va_D A0 ws) (hS : va_S A0 H0 H locs) (hA : ∀ q, H0.size ≤ q → A0 q) : ∀ q, va_A ws H.size q → A0 q := by
  intro q h
  rcases h with ⟨k, e, h⟩ | h
  · exact hD.2 k _ h
  · exact hA q (Nat.le_trans hS.1 h)
section CL
variable {p : Program} {l : Launch} {e : Env} {R : Room} {s : State} {m : MethodId} {args : Array Value} {below : List Frame} {meth : Method} {c : Code} {H H0 : Heap} {locs : List Loc} {cells slots mc ms pc : Nat} {Q : State → Prop} {ls : Array Slot} {rest st0 : List Value} {a : Array Value} {A : Nat → Prop} {D : va_G} {tys : List (ClassId × FieldType)} {ws : va_W}
theorem cl_i {S : Type} {post : Int32 → S → Prop} {W1 : S → va_W} (hr : va_Run p l e R s m args below meth c H locs cells slots mc ms (F0 m pc ls st0) rest (va_Qi post (fun u t => wO D tys (va_A ws H.size) (W1 u) t) (va_A ws H.size) a) (va_A ws H.size)) (hD : va_D A ws) (hS : va_S A H0 H locs) (hA : ∀ q, H0.size ≤ q → A q)
    (kk : ∀ (r : Int32) (u : S) (H1 : Heap) (locs1 : List Loc), post r u → va_P D vwCl (W1 u) H1 → va_D A (W1 u) → va_S A H0 H1 locs1 → W p l e R s m args below meth c H1 locs1 (cells + mc) (slots + ms) Q (F0 m (pc + 3) ls (.int r :: rest))) : W p l e R s m args below meth c H locs cells slots Q (F0 m pc ls st0) := by
  have hF := w_free hD hS hA
  refine va_calli hr hS (fun q _ h => hF q h) hF (fun r u t H1 locs1 ht hvm hw hB hz1 hk1 hS => ?_)
  obtain ⟨hP1, -, hD1⟩ := hB
  rw [ht] at hP1
  exact kk r u H1 locs1 hw hP1 (hD1.weaken (fun _ _ _ h => hF _ h)) hS
theorem cl_l {S : Type} {post : Int64 → S → Prop} {W1 : S → va_W} (hr : va_Run p l e R s m args below meth c H locs cells slots mc ms (F0 m pc ls st0) rest (va_Ql post (fun u t => wO D tys (va_A ws H.size) (W1 u) t) (va_A ws H.size) a) (va_A ws H.size)) (hD : va_D A ws) (hS : va_S A H0 H locs) (hA : ∀ q, H0.size ≤ q → A q)
    (kk : ∀ (r : Int64) (u : S) (H1 : Heap) (locs1 : List Loc), post r u → va_P D vwCl (W1 u) H1 → va_D A (W1 u) → va_S A H0 H1 locs1 → W p l e R s m args below meth c H1 locs1 (cells + mc) (slots + ms) Q (F0 m (pc + 3) ls (.long r :: rest))) : W p l e R s m args below meth c H locs cells slots Q (F0 m pc ls st0) := by
  have hF := w_free hD hS hA
  refine va_calll hr hS (fun q _ h => hF q h) hF (fun r u t H1 locs1 ht hvm hw hB hz1 hk1 hS => ?_)
  obtain ⟨hP1, -, hD1⟩ := hB
  rw [ht] at hP1
  exact kk r u H1 locs1 hw hP1 (hD1.weaken (fun _ _ _ h => hF _ h)) hS
theorem cl_v {S : Type} {post : S → Prop} {W1 : S → va_W} (hr : va_Run p l e R s m args below meth c H locs cells slots mc ms (F0 m pc ls st0) rest (va_Qv post (fun u t => wO D tys (va_A ws H.size) (W1 u) t) (va_A ws H.size) a) (va_A ws H.size)) (hD : va_D A ws) (hS : va_S A H0 H locs) (hA : ∀ q, H0.size ≤ q → A q)
    (kk : ∀ (u : S) (H1 : Heap) (locs1 : List Loc), post u → va_P D vwCl (W1 u) H1 → va_D A (W1 u) → va_S A H0 H1 locs1 → W p l e R s m args below meth c H1 locs1 (cells + mc) (slots + ms) Q (F0 m (pc + 3) ls rest)) : W p l e R s m args below meth c H locs cells slots Q (F0 m pc ls st0) := by
  have hF := w_free hD hS hA
  refine va_callv hr hS (fun q _ h => hF q h) hF (fun u t H1 locs1 ht hvm hw hB hz1 hk1 hS => ?_)
  obtain ⟨hP1, -, hD1⟩ := hB
  rw [ht] at hP1
  exact kk u H1 locs1 hw hP1 (hD1.weaken (fun _ _ _ h => hF _ h)) hS
end CL
/-! the reference's state: dials, isFine, rimF, placeF, rimD, placeD, lapsOf, drives, sortOf, pullOf, gearOf, pulled, slots, shafts, many, floats, doubles, seen, failed, counts -/
abbrev Ms : Type := Int32 × (Nat → Int32) × (Nat → UInt32) × (Nat → UInt32) × (Nat → UInt64) × (Nat → UInt64) × (Nat → Int64) × Int32 × (Nat → Int32) × (Nat → UInt64) × (Nat → Int32) × (Nat → Int32) × (Nat → Int32) × (Nat → Int32) × (Nat → Int32) × (Nat → UInt32) × (Nat → UInt64) × Int64 × Int32 × (Nat → Int32)
def m_dials (o : Ms) : Int32 := o.1
def m_isFine (o : Ms) : Nat → Int32 := o.2.1
def m_rimF (o : Ms) : Nat → UInt32 := o.2.2.1
def m_placeF (o : Ms) : Nat → UInt32 := o.2.2.2.1
def m_rimD (o : Ms) : Nat → UInt64 := o.2.2.2.2.1
def m_placeD (o : Ms) : Nat → UInt64 := o.2.2.2.2.2.1
def m_lapsOf (o : Ms) : Nat → Int64 := o.2.2.2.2.2.2.1
def m_drives (o : Ms) : Int32 := o.2.2.2.2.2.2.2.1
def m_sortOf (o : Ms) : Nat → Int32 := o.2.2.2.2.2.2.2.2.1
def m_pullOf (o : Ms) : Nat → UInt64 := o.2.2.2.2.2.2.2.2.2.1
def m_gearOf (o : Ms) : Nat → Int32 := o.2.2.2.2.2.2.2.2.2.2.1
def m_pulled (o : Ms) : Nat → Int32 := o.2.2.2.2.2.2.2.2.2.2.2.1
def m_slots (o : Ms) : Nat → Int32 := o.2.2.2.2.2.2.2.2.2.2.2.2.1
def m_shafts (o : Ms) : Nat → Int32 := o.2.2.2.2.2.2.2.2.2.2.2.2.2.1
def m_many (o : Ms) : Nat → Int32 := o.2.2.2.2.2.2.2.2.2.2.2.2.2.2.1
def m_floats (o : Ms) : Nat → UInt32 := o.2.2.2.2.2.2.2.2.2.2.2.2.2.2.2.1
def m_doubles (o : Ms) : Nat → UInt64 := o.2.2.2.2.2.2.2.2.2.2.2.2.2.2.2.2.1
def m_seen (o : Ms) : Int64 := o.2.2.2.2.2.2.2.2.2.2.2.2.2.2.2.2.2.1
def m_failed (o : Ms) : Int32 := o.2.2.2.2.2.2.2.2.2.2.2.2.2.2.2.2.2.2.1
def m_counts (o : Ms) : Nat → Int32 := o.2.2.2.2.2.2.2.2.2.2.2.2.2.2.2.2.2.2.2
def s_dials (o : Ms) (v : Int32) : Ms := (v, m_isFine o, m_rimF o, m_placeF o, m_rimD o, m_placeD o, m_lapsOf o, m_drives o, m_sortOf o, m_pullOf o, m_gearOf o, m_pulled o, m_slots o, m_shafts o, m_many o, m_floats o, m_doubles o, m_seen o, m_failed o, m_counts o)
def s_isFine (o : Ms) (v : (Nat → Int32)) : Ms := (m_dials o, v, m_rimF o, m_placeF o, m_rimD o, m_placeD o, m_lapsOf o, m_drives o, m_sortOf o, m_pullOf o, m_gearOf o, m_pulled o, m_slots o, m_shafts o, m_many o, m_floats o, m_doubles o, m_seen o, m_failed o, m_counts o)
def s_rimF (o : Ms) (v : (Nat → UInt32)) : Ms := (m_dials o, m_isFine o, v, m_placeF o, m_rimD o, m_placeD o, m_lapsOf o, m_drives o, m_sortOf o, m_pullOf o, m_gearOf o, m_pulled o, m_slots o, m_shafts o, m_many o, m_floats o, m_doubles o, m_seen o, m_failed o, m_counts o)
def s_placeF (o : Ms) (v : (Nat → UInt32)) : Ms := (m_dials o, m_isFine o, m_rimF o, v, m_rimD o, m_placeD o, m_lapsOf o, m_drives o, m_sortOf o, m_pullOf o, m_gearOf o, m_pulled o, m_slots o, m_shafts o, m_many o, m_floats o, m_doubles o, m_seen o, m_failed o, m_counts o)
def s_rimD (o : Ms) (v : (Nat → UInt64)) : Ms := (m_dials o, m_isFine o, m_rimF o, m_placeF o, v, m_placeD o, m_lapsOf o, m_drives o, m_sortOf o, m_pullOf o, m_gearOf o, m_pulled o, m_slots o, m_shafts o, m_many o, m_floats o, m_doubles o, m_seen o, m_failed o, m_counts o)
def s_placeD (o : Ms) (v : (Nat → UInt64)) : Ms := (m_dials o, m_isFine o, m_rimF o, m_placeF o, m_rimD o, v, m_lapsOf o, m_drives o, m_sortOf o, m_pullOf o, m_gearOf o, m_pulled o, m_slots o, m_shafts o, m_many o, m_floats o, m_doubles o, m_seen o, m_failed o, m_counts o)
def s_lapsOf (o : Ms) (v : (Nat → Int64)) : Ms := (m_dials o, m_isFine o, m_rimF o, m_placeF o, m_rimD o, m_placeD o, v, m_drives o, m_sortOf o, m_pullOf o, m_gearOf o, m_pulled o, m_slots o, m_shafts o, m_many o, m_floats o, m_doubles o, m_seen o, m_failed o, m_counts o)
def s_drives (o : Ms) (v : Int32) : Ms := (m_dials o, m_isFine o, m_rimF o, m_placeF o, m_rimD o, m_placeD o, m_lapsOf o, v, m_sortOf o, m_pullOf o, m_gearOf o, m_pulled o, m_slots o, m_shafts o, m_many o, m_floats o, m_doubles o, m_seen o, m_failed o, m_counts o)
def s_sortOf (o : Ms) (v : (Nat → Int32)) : Ms := (m_dials o, m_isFine o, m_rimF o, m_placeF o, m_rimD o, m_placeD o, m_lapsOf o, m_drives o, v, m_pullOf o, m_gearOf o, m_pulled o, m_slots o, m_shafts o, m_many o, m_floats o, m_doubles o, m_seen o, m_failed o, m_counts o)
def s_pullOf (o : Ms) (v : (Nat → UInt64)) : Ms := (m_dials o, m_isFine o, m_rimF o, m_placeF o, m_rimD o, m_placeD o, m_lapsOf o, m_drives o, m_sortOf o, v, m_gearOf o, m_pulled o, m_slots o, m_shafts o, m_many o, m_floats o, m_doubles o, m_seen o, m_failed o, m_counts o)
def s_gearOf (o : Ms) (v : (Nat → Int32)) : Ms := (m_dials o, m_isFine o, m_rimF o, m_placeF o, m_rimD o, m_placeD o, m_lapsOf o, m_drives o, m_sortOf o, m_pullOf o, v, m_pulled o, m_slots o, m_shafts o, m_many o, m_floats o, m_doubles o, m_seen o, m_failed o, m_counts o)
def s_pulled (o : Ms) (v : (Nat → Int32)) : Ms := (m_dials o, m_isFine o, m_rimF o, m_placeF o, m_rimD o, m_placeD o, m_lapsOf o, m_drives o, m_sortOf o, m_pullOf o, m_gearOf o, v, m_slots o, m_shafts o, m_many o, m_floats o, m_doubles o, m_seen o, m_failed o, m_counts o)
def s_slots (o : Ms) (v : (Nat → Int32)) : Ms := (m_dials o, m_isFine o, m_rimF o, m_placeF o, m_rimD o, m_placeD o, m_lapsOf o, m_drives o, m_sortOf o, m_pullOf o, m_gearOf o, m_pulled o, v, m_shafts o, m_many o, m_floats o, m_doubles o, m_seen o, m_failed o, m_counts o)
def s_shafts (o : Ms) (v : (Nat → Int32)) : Ms := (m_dials o, m_isFine o, m_rimF o, m_placeF o, m_rimD o, m_placeD o, m_lapsOf o, m_drives o, m_sortOf o, m_pullOf o, m_gearOf o, m_pulled o, m_slots o, v, m_many o, m_floats o, m_doubles o, m_seen o, m_failed o, m_counts o)
def s_many (o : Ms) (v : (Nat → Int32)) : Ms := (m_dials o, m_isFine o, m_rimF o, m_placeF o, m_rimD o, m_placeD o, m_lapsOf o, m_drives o, m_sortOf o, m_pullOf o, m_gearOf o, m_pulled o, m_slots o, m_shafts o, v, m_floats o, m_doubles o, m_seen o, m_failed o, m_counts o)
def s_floats (o : Ms) (v : (Nat → UInt32)) : Ms := (m_dials o, m_isFine o, m_rimF o, m_placeF o, m_rimD o, m_placeD o, m_lapsOf o, m_drives o, m_sortOf o, m_pullOf o, m_gearOf o, m_pulled o, m_slots o, m_shafts o, m_many o, v, m_doubles o, m_seen o, m_failed o, m_counts o)
def s_doubles (o : Ms) (v : (Nat → UInt64)) : Ms := (m_dials o, m_isFine o, m_rimF o, m_placeF o, m_rimD o, m_placeD o, m_lapsOf o, m_drives o, m_sortOf o, m_pullOf o, m_gearOf o, m_pulled o, m_slots o, m_shafts o, m_many o, m_floats o, v, m_seen o, m_failed o, m_counts o)
def s_seen (o : Ms) (v : Int64) : Ms := (m_dials o, m_isFine o, m_rimF o, m_placeF o, m_rimD o, m_placeD o, m_lapsOf o, m_drives o, m_sortOf o, m_pullOf o, m_gearOf o, m_pulled o, m_slots o, m_shafts o, m_many o, m_floats o, m_doubles o, v, m_failed o, m_counts o)
def s_failed (o : Ms) (v : Int32) : Ms := (m_dials o, m_isFine o, m_rimF o, m_placeF o, m_rimD o, m_placeD o, m_lapsOf o, m_drives o, m_sortOf o, m_pullOf o, m_gearOf o, m_pulled o, m_slots o, m_shafts o, m_many o, m_floats o, m_doubles o, m_seen o, v, m_counts o)
def s_counts (o : Ms) (v : (Nat → Int32)) : Ms := (m_dials o, m_isFine o, m_rimF o, m_placeF o, m_rimD o, m_placeD o, m_lapsOf o, m_drives o, m_sortOf o, m_pullOf o, m_gearOf o, m_pulled o, m_slots o, m_shafts o, m_many o, m_floats o, m_doubles o, m_seen o, m_failed o, v)
/-- the classes of the arrays -/
def tyA (cy : Nat → ClassId) : List (ClassId × FieldType) := [(cy 0, .int), (cy 1, .long), (cy 2, .boolean), (cy 3, .float), (cy 4, .double), (cy 5, .object "OrreryDials$Dial"), (cy 6, .object "OrreryDials$Drive"), (cy 7, .object "OrreryDials$Row")]
theorem w_heap {p : Program} {l : Launch} {e : Env} {R : Room} {s : State} {m : MethodId} {args : Array Value} {below : List Frame} {meth : Method} {c : Code} {H : Heap} {locs : List Loc} {cells slots : Nat} {Q : State → Prop} {g : JFrame} (h : s.heap = H) : W p l e R s m args below meth c s.heap locs cells slots Q g = W p l e R s m args below meth c H locs cells slots Q g := by rw [h]
theorem t_out3 {x : Int32} (h0 : ¬ x = 0) (h1 : ¬ x = 1) (h2 : ¬ x = 2) : x.toInt < 0 ∨ 2 < x.toInt := by
  have e : ∀ k : Int32, x.toInt = k.toInt → x = k := fun k h => Int32.toInt_inj.mp h
  have e0 := mt (e 0) h0
  have e1 := mt (e 1) h1
  have e2 := mt (e 2) h2
  have t0 : (0 : Int32).toInt = 0 := rfl
  have t1 : (1 : Int32).toInt = 1 := rfl
  have t2 : (2 : Int32).toInt = 2 := rfl
  omega
/-- the reference's cells -/
def wm_f (bd : Nat → Nat) (o : Ms) : List Value := [.int (m_dials o), .ref (bd 0), .ref (bd 1), .ref (bd 2), .ref (bd 3), .ref (bd 4), .ref (bd 5), .int (m_drives o), .ref (bd 6), .ref (bd 7), .ref (bd 8), .ref (bd 9), .ref (bd 10), .ref (bd 11), .ref (bd 12), .ref (bd 13), .ref (bd 14), .long (m_seen o), .int (m_failed o), .ref (bd 15)]
def WM (cy : Nat → ClassId) (y : Nat) (bd : Nat → Nat) (o : Ms) : va_W := [(y, .inr (6, wm_f bd o)),
  (bd 0, .inl (cy 2, 12, .inl (m_isFine o))),
  (bd 1, .inl (cy 3, 12, .inr (.inr (.inl (m_rimF o))))),
  (bd 2, .inl (cy 3, 12, .inr (.inr (.inl (m_placeF o))))),
  (bd 3, .inl (cy 4, 12, .inr (.inr (.inr (.inl (m_rimD o)))))),
  (bd 4, .inl (cy 4, 12, .inr (.inr (.inr (.inl (m_placeD o)))))),
  (bd 5, .inl (cy 1, 12, .inr (.inl (m_lapsOf o)))),
  (bd 6, .inl (cy 0, 20, .inl (m_sortOf o))),
  (bd 7, .inl (cy 4, 20, .inr (.inr (.inr (.inl (m_pullOf o)))))),
  (bd 8, .inl (cy 0, 20, .inl (m_gearOf o))),
  (bd 9, .inl (cy 0, 20, .inl (m_pulled o))),
  (bd 10, .inl (cy 0, 6, .inl (m_slots o))),
  (bd 11, .inl (cy 0, 8, .inl (m_shafts o))),
  (bd 12, .inl (cy 0, 16, .inl (m_many o))),
  (bd 13, .inl (cy 3, 128, .inr (.inr (.inl (m_floats o))))),
  (bd 14, .inl (cy 4, 128, .inr (.inr (.inr (.inl (m_doubles o)))))),
  (bd 15, .inl (cy 0, 5, .inl (m_counts o)))]
theorem wm_p_dials (cy : Nat → ClassId) (y : Nat) (bd : Nat → Nat) (o : Ms) (v : Int32) : (WM cy y bd o).set 0 (y, .inr (6, (wm_f bd o).set 0 (.int v))) = WM cy y bd (s_dials o v) := rfl
theorem wm_a_isFine (cy : Nat → ClassId) (y : Nat) (bd : Nat → Nat) (o : Ms) (f : Nat → Int32) : (WM cy y bd o).set 1 (bd 0, .inl (cy 2, 12, .inl f)) = WM cy y bd (s_isFine o f) := rfl
theorem wm_a_rimF (cy : Nat → ClassId) (y : Nat) (bd : Nat → Nat) (o : Ms) (f : Nat → UInt32) : (WM cy y bd o).set 2 (bd 1, .inl (cy 3, 12, .inr (.inr (.inl f)))) = WM cy y bd (s_rimF o f) := rfl
theorem wm_a_placeF (cy : Nat → ClassId) (y : Nat) (bd : Nat → Nat) (o : Ms) (f : Nat → UInt32) : (WM cy y bd o).set 3 (bd 2, .inl (cy 3, 12, .inr (.inr (.inl f)))) = WM cy y bd (s_placeF o f) := rfl
theorem wm_a_rimD (cy : Nat → ClassId) (y : Nat) (bd : Nat → Nat) (o : Ms) (f : Nat → UInt64) : (WM cy y bd o).set 4 (bd 3, .inl (cy 4, 12, .inr (.inr (.inr (.inl f))))) = WM cy y bd (s_rimD o f) := rfl
theorem wm_a_placeD (cy : Nat → ClassId) (y : Nat) (bd : Nat → Nat) (o : Ms) (f : Nat → UInt64) : (WM cy y bd o).set 5 (bd 4, .inl (cy 4, 12, .inr (.inr (.inr (.inl f))))) = WM cy y bd (s_placeD o f) := rfl
theorem wm_a_lapsOf (cy : Nat → ClassId) (y : Nat) (bd : Nat → Nat) (o : Ms) (f : Nat → Int64) : (WM cy y bd o).set 6 (bd 5, .inl (cy 1, 12, .inr (.inl f))) = WM cy y bd (s_lapsOf o f) := rfl
theorem wm_p_drives (cy : Nat → ClassId) (y : Nat) (bd : Nat → Nat) (o : Ms) (v : Int32) : (WM cy y bd o).set 0 (y, .inr (6, (wm_f bd o).set 7 (.int v))) = WM cy y bd (s_drives o v) := rfl
theorem wm_a_sortOf (cy : Nat → ClassId) (y : Nat) (bd : Nat → Nat) (o : Ms) (f : Nat → Int32) : (WM cy y bd o).set 7 (bd 6, .inl (cy 0, 20, .inl f)) = WM cy y bd (s_sortOf o f) := rfl
theorem wm_a_pullOf (cy : Nat → ClassId) (y : Nat) (bd : Nat → Nat) (o : Ms) (f : Nat → UInt64) : (WM cy y bd o).set 8 (bd 7, .inl (cy 4, 20, .inr (.inr (.inr (.inl f))))) = WM cy y bd (s_pullOf o f) := rfl
theorem wm_a_gearOf (cy : Nat → ClassId) (y : Nat) (bd : Nat → Nat) (o : Ms) (f : Nat → Int32) : (WM cy y bd o).set 9 (bd 8, .inl (cy 0, 20, .inl f)) = WM cy y bd (s_gearOf o f) := rfl
theorem wm_a_pulled (cy : Nat → ClassId) (y : Nat) (bd : Nat → Nat) (o : Ms) (f : Nat → Int32) : (WM cy y bd o).set 10 (bd 9, .inl (cy 0, 20, .inl f)) = WM cy y bd (s_pulled o f) := rfl
theorem wm_a_slots (cy : Nat → ClassId) (y : Nat) (bd : Nat → Nat) (o : Ms) (f : Nat → Int32) : (WM cy y bd o).set 11 (bd 10, .inl (cy 0, 6, .inl f)) = WM cy y bd (s_slots o f) := rfl
theorem wm_a_shafts (cy : Nat → ClassId) (y : Nat) (bd : Nat → Nat) (o : Ms) (f : Nat → Int32) : (WM cy y bd o).set 12 (bd 11, .inl (cy 0, 8, .inl f)) = WM cy y bd (s_shafts o f) := rfl
theorem wm_a_many (cy : Nat → ClassId) (y : Nat) (bd : Nat → Nat) (o : Ms) (f : Nat → Int32) : (WM cy y bd o).set 13 (bd 12, .inl (cy 0, 16, .inl f)) = WM cy y bd (s_many o f) := rfl
theorem wm_a_floats (cy : Nat → ClassId) (y : Nat) (bd : Nat → Nat) (o : Ms) (f : Nat → UInt32) : (WM cy y bd o).set 14 (bd 13, .inl (cy 3, 128, .inr (.inr (.inl f)))) = WM cy y bd (s_floats o f) := rfl
theorem wm_a_doubles (cy : Nat → ClassId) (y : Nat) (bd : Nat → Nat) (o : Ms) (f : Nat → UInt64) : (WM cy y bd o).set 15 (bd 14, .inl (cy 4, 128, .inr (.inr (.inr (.inl f))))) = WM cy y bd (s_doubles o f) := rfl
theorem wm_p_seen (cy : Nat → ClassId) (y : Nat) (bd : Nat → Nat) (o : Ms) (v : Int64) : (WM cy y bd o).set 0 (y, .inr (6, (wm_f bd o).set 17 (.long v))) = WM cy y bd (s_seen o v) := rfl
theorem wm_p_failed (cy : Nat → ClassId) (y : Nat) (bd : Nat → Nat) (o : Ms) (v : Int32) : (WM cy y bd o).set 0 (y, .inr (6, (wm_f bd o).set 18 (.int v))) = WM cy y bd (s_failed o v) := rfl
theorem wm_a_counts (cy : Nat → ClassId) (y : Nat) (bd : Nat → Nat) (o : Ms) (f : Nat → Int32) : (WM cy y bd o).set 16 (bd 15, .inl (cy 0, 5, .inl f)) = WM cy y bd (s_counts o f) := rfl
theorem wm_len (bd : Nat → Nat) (o : Ms) : (wm_f bd o).length = 20 := rfl
theorem ib {S : Type} {c : Prop} [Decidable c] {A B : Int32 × S} (hA : A.1 = 0 ∨ A.1 = 1) (hB : B.1 = 0 ∨ B.1 = 1) : (if c then A else B).1 = 0 ∨ (if c then A else B).1 = 1 := by
  by_cases h : c
  · rw [if_pos h]; exact hA
  · rw [if_neg h]; exact hB
theorem ibs {c : Prop} [Decidable c] {A B : Int32} (hA : A = 0 ∨ A = 1) (hB : B = 0 ∨ B = 1) : (if c then A else B) = 0 ∨ (if c then A else B) = 1 := by
  by_cases h : c
  · rw [if_pos h]; exact hA
  · rw [if_neg h]; exact hB
