/-! the start: what the tables say -/
theorem tb_751 : (.castable RX0 RX2 : Cond) ∈ lw_tbl := List.mem_append_right _ (List.mem_of_getElem? (i := 751) (by decide +kernel))
theorem tb_752 : (.castable RX3 RX2 : Cond) ∈ lw_tbl := List.mem_append_right _ (List.mem_of_getElem? (i := 752) (by decide +kernel))
theorem tb_753 : (.castable RX6 RX2 : Cond) ∈ lw_tbl := List.mem_append_right _ (List.mem_of_getElem? (i := 753) (by decide +kernel))
theorem tb_749 : (.castable RX0 RX0 : Cond) ∈ lw_tbl := List.mem_append_right _ (List.mem_of_getElem? (i := 749) (by decide +kernel))
theorem tb_750 : (.castable RX3 RX0 : Cond) ∈ lw_tbl := List.mem_append_right _ (List.mem_of_getElem? (i := 750) (by decide +kernel))
theorem tb_24 : (.arrayOver (.object RX1) : Cond) ∈ lw_tbl := List.mem_append_right _ (List.mem_of_getElem? (i := 24) (by decide +kernel))
theorem tb_26 : (.arrayOver (.object RX2) : Cond) ∈ lw_tbl := List.mem_append_right _ (List.mem_of_getElem? (i := 26) (by decide +kernel))
theorem tb_28 : (.arrayOver (.object RX5) : Cond) ∈ lw_tbl := List.mem_append_right _ (List.mem_of_getElem? (i := 28) (by decide +kernel))
theorem tb_30 : (.methodLinkNest RX7 51 yX5_init "OrreryDials" : Cond) ∈ lw_tbl := List.mem_append_right _ (List.mem_of_getElem? (i := 30) (by decide +kernel))
theorem tb_307 : (.declares ⟨"OrreryDials$Drive", "forceAt", "(J)J"⟩ : Cond) ∈ lw_tbl := List.mem_append_right _ (List.mem_of_getElem? (i := 307) (by decide +kernel))
theorem tb_43 : (.arrayClass .int : Cond) ∈ lw_tbl := List.mem_append_right _ (List.mem_of_getElem? (i := 43) (by decide +kernel))
theorem tb_44 : (.arrayClass .long : Cond) ∈ lw_tbl := List.mem_append_right _ (List.mem_of_getElem? (i := 44) (by decide +kernel))
theorem tb_516 : (.arrayClass .boolean : Cond) ∈ lw_tbl := List.mem_append_right _ (List.mem_of_getElem? (i := 516) (by decide +kernel))
theorem tb_517 : (.arrayClass .float : Cond) ∈ lw_tbl := List.mem_append_right _ (List.mem_of_getElem? (i := 517) (by decide +kernel))
theorem tb_518 : (.arrayClass .double : Cond) ∈ lw_tbl := List.mem_append_right _ (List.mem_of_getElem? (i := 518) (by decide +kernel))
theorem tb_254 : (.instantiable RX0 4 : Cond) ∈ lw_tbl := List.mem_append_right _ (List.mem_of_getElem? (i := 254) (by decide +kernel))
theorem tb_99 : (.instantiable RX1 4 : Cond) ∈ lw_tbl := List.mem_append_right _ (List.mem_of_getElem? (i := 99) (by decide +kernel))
theorem tb_270 : (.instantiable RX3 4 : Cond) ∈ lw_tbl := List.mem_append_right _ (List.mem_of_getElem? (i := 270) (by decide +kernel))
theorem tb_29 : (.instantiable RX5 2 : Cond) ∈ lw_tbl := List.mem_append_right _ (List.mem_of_getElem? (i := 29) (by decide +kernel))
theorem tb_225 : (.instantiable RX6 3 : Cond) ∈ lw_tbl := List.mem_append_right _ (List.mem_of_getElem? (i := 225) (by decide +kernel))
theorem tb_16 : (.instantiable RX7 10 : Cond) ∈ lw_tbl := List.mem_append_right _ (List.mem_of_getElem? (i := 16) (by decide +kernel))
theorem tb_450 : (.instantiable RX8 20 : Cond) ∈ lw_tbl := List.mem_append_right _ (List.mem_of_getElem? (i := 450) (by decide +kernel))
theorem kx_of {b : Nat} {s : State} (hts : ∀ w ∈ lw_tbl, w.before #[Value.ref b] s = true) (hgv : (Jvm.Cond.and given_1 narrow_1).before #[Value.ref b] s = true) : kX s := by
  have hs := flat_of_before _ hgv
  exact ⟨va_Nw.of rfl (hts _ tb_751), va_Nw.of rfl (hts _ tb_752), va_Nw.of rfl (hts _ tb_753), va_Nw.of rfl (hts _ tb_749), va_Nw.of rfl (hts _ tb_750), va_Nc.of (hs (.not (.castable RX6 RX0)) (by decide +kernel)), va_AO.of (hts _ tb_24), va_AO.of (hts _ tb_26), va_AO.of (hts _ tb_28), va_Nw.of rfl (hts _ tb_30), va_Nw.of rfl (hts _ tb_307)⟩
theorem ar_p {args : Array Value} {s : State} {ty : FieldType} (h : (Cond.arrayClass ty).before args s = true) : ∃ cA : ClassId, ArrOfT s cA ty ∧ s.vm.findClass ("[" ++ ty.toString) = some cA := by
  obtain ⟨cA, kA, comp, h1, h2, h3⟩ := Cond.arrayClass_spec h
  exact ⟨cA, fun n z => ⟨fun k h => (by cases h), kA, h2, comp, h3⟩, h1⟩
theorem ar_o {args : Array Value} {s : State} {C : String} (h : (Cond.arrayOver (.object C)).before args s = true) : ∃ cA : ClassId, ArrOfT s cA (.object C) ∧ va_RA s cA (.object C) := by
  obtain ⟨comp, cA, kA, h1, h2, h3, h4, h5⟩ := Cond.arrayOver_spec h
  exact ⟨cA, fun n z => ⟨fun k h => (by cases h), kA, h3, comp, h4⟩, kA, comp, h3, h4, h1, h5⟩
theorem ty_of {b : Nat} {s : State} (hts : ∀ w ∈ lw_tbl, w.before #[Value.ref b] s = true) : ∃ cy : Nat → ClassId, ∀ (k : Nat) (q : ClassId × FieldType), (tyA cy)[k]? = some q → ArrOfT s q.1 q.2 ∧ va_RA s q.1 q.2 := by
  obtain ⟨c0, a0, b0⟩ := ar_p (hts _ tb_43)
  obtain ⟨c1, a1, b1⟩ := ar_p (hts _ tb_44)
  obtain ⟨c2, a2, b2⟩ := ar_p (hts _ tb_516)
  obtain ⟨c3, a3, b3⟩ := ar_p (hts _ tb_517)
  obtain ⟨c4, a4, b4⟩ := ar_p (hts _ tb_518)
  obtain ⟨c5, a5, b5⟩ := ar_o (hts _ tb_24)
  obtain ⟨c6, a6, b6⟩ := ar_o (hts _ tb_26)
  obtain ⟨c7, a7, b7⟩ := ar_o (hts _ tb_28)
  refine ⟨fun k => match k with | 0 => c0 | 1 => c1 | 2 => c2 | 3 => c3 | 4 => c4 | 5 => c5 | 6 => c6 | _ => c7, fun k q hq => ?_⟩
  match k, hq with
  | 0, hq => cases hq; exact ⟨a0, b0⟩
  | 1, hq => cases hq; exact ⟨a1, b1⟩
  | 2, hq => cases hq; exact ⟨a2, b2⟩
  | 3, hq => cases hq; exact ⟨a3, b3⟩
  | 4, hq => cases hq; exact ⟨a4, b4⟩
  | 5, hq => cases hq; exact ⟨a5, b5⟩
  | 6, hq => cases hq; exact ⟨a6, b6⟩
  | 7, hq => cases hq; exact ⟨a7, b7⟩
  | k + 8, hq => simp [tyA] at hq
theorem cl_of {b : Nat} {s : State} (hts : ∀ w ∈ lw_tbl, w.before #[Value.ref b] s = true) : ∃ (dC : Nat → ClassId) (dI : Nat → Nat → Nat), ∀ (k : Nat) (q : vw_C), vwCl[k]? = some q → u_Kn s q.1 q.2.1 q.2.2 (dC k) (dI k) := by
  obtain ⟨c0, i0, k0⟩ := u_known (C := RX0) (T := TX0) (N := 4) (n := 4) hts inX0 (hts _ tb_254)
  obtain ⟨c1, i1, k1⟩ := u_known (C := RX1) (T := TX1) (N := 4) (n := 4) hts inX1 (hts _ tb_99)
  obtain ⟨c2, i2, k2⟩ := u_known (C := RX3) (T := TX3) (N := 4) (n := 4) hts inX3 (hts _ tb_270)
  obtain ⟨c3, i3, k3⟩ := u_known (C := RX5) (T := TX5) (N := 2) (n := 2) hts inX5 (hts _ tb_29)
  obtain ⟨c4, i4, k4⟩ := u_known (C := RX6) (T := TX6) (N := 3) (n := 3) hts inX6 (hts _ tb_225)
  obtain ⟨c5, i5, k5⟩ := u_known (C := RX7) (T := TX7) (N := 10) (n := 10) hts inX7 (hts _ tb_16)
  obtain ⟨c6, i6, k6⟩ := u_known (C := RX8) (T := TX8) (N := 20) (n := 20) hts inX8 (hts _ tb_450)
  refine ⟨fun k => match k with | 0 => c0 | 1 => c1 | 2 => c2 | 3 => c3 | 4 => c4 | 5 => c5 | _ => c6, fun k => match k with | 0 => i0 | 1 => i1 | 2 => i2 | 3 => i3 | 4 => i4 | 5 => i5 | _ => i6, fun k q hq => ?_⟩
  match k, hq with
  | 0, hq => cases hq; exact k0
  | 1, hq => cases hq; exact k1
  | 2, hq => cases hq; exact k2
  | 3, hq => cases hq; exact k3
  | 4, hq => cases hq; exact k4
  | 5, hq => cases hq; exact k5
  | 6, hq => cases hq; exact k6
  | k + 7, hq => simp [vwCl] at hq
theorem rl_new : rl 0 o_new m_new := by
  have hs : ∀ i, i < 6 → m_slots m_new i = -1 := by decide
  have hh : ∀ i, i < 8 → m_shafts m_new i = -1 := by decide
  have hm : ∀ i, i < 16 → m_many m_new i = -1 := by decide
  refine ⟨⟨⟨Nat.zero_le _, rfl, fun i hi => absurd hi (Nat.not_lt_zero i)⟩, ⟨Nat.zero_le _, rfl, fun i hi => absurd hi (Nat.not_lt_zero i)⟩, ⟨fun i hi => Or.inl ⟨rfl, hs i hi⟩, fun i hi => Or.inl ⟨rfl, hh i hi⟩⟩, fun L hL b hb => ⟨⟨hm _ (by omega), Or.inl rfl⟩, fun j hj => ?_⟩, ⟨rfl, fun j hj => rfl⟩⟩, rfl⟩
  have e : qf (nI b) (m_floats m_new (16 * L + j)) (m_doubles m_new (16 * L + j)) = 0 := by
    rcases nb_01 hb with ⟨q1, rfl⟩ | ⟨q1, rfl⟩
    · rw [q1, qf_0]; rfl
    · rw [q1, qf_1]; rfl
  rw [e]
  exact ⟨(xb_z hb).1.symm, (xb_z hb).2⟩
def R_law : String := "OrreryDialsLaw"
def lw_P (b : Addr) (xs : List Int32) (args : Array Value) (s : State) : Prop := args = #[.ref b] ∧ s.IntsAt b xs ∧ xs.length ≤ 3072 ∧ (Jvm.Cond.and given_1 narrow_1).before args s = true
def lw_Q (_ : Array Value) (s : State) (o : Outcome) (t : State) : Prop := o = .returned (some (.int 1)) ∧ Framed s o t [] 600000 7302250
def lw_Z (below : List Frame) (a : Array Value) (s : State) : State → Prop := fun t => ∃ o, t.status = .running ∧ Ended t below o ∧ lw_Q a s o t
/-- the law's own end, with 1 on the stack, nothing written that was there before, its room as the claim has it -/
theorem lw_ret {p : Program} {l : Launch} {e : Env} {s : State} {m : MethodId} {below : List Frame} {meth : Method} {c : Code} {b : Nat} (hx : p.tables.exec = Jvm.exec) (hb : c.code = code) (hr : meth.sig.returnType = ret) (hlocks : meth.locks = false) {pc : Nat} {H : Heap} {ls : Array Slot} (hdg : decode code pc = .ok (.ireturn, 1)) : W p l e room_1 s m #[Value.ref b] below meth c H [] 600000 7302250 (lw_Z below #[Value.ref b] s) (F0 m pc ls [.int 1]) := by
  intro T hT X
  obtain ⟨fs, hret, hrun, hended, hW, hframe⟩ := X.leave (v := some (.int 1)) (hlocks := hlocks) (fun h => by rw [hr] at h; cases h)
  have hmeth' : T.vm.method? m = some meth := X.method'
  refine ⟨T.setFrames fs, ?_, .returned (some (.int 1)), hrun, hended, rfl, ⟨_, rfl⟩, hW, hframe⟩
  jvm_step X.here [X.here.top, hx, hb, hdg, hmeth', hr, ret, narrow_b1]
  (try refine ⟨rfl, ?_⟩); (try refine ⟨rfl, ?_⟩)
  first | (intro acts; rw [hret _ acts rfl rfl rfl]) | rw [hret _ _ rfl rfl rfl]
  exact Steps.refl _
/-- what holds at the law's entry: the machine, the code, the tables' words (any of lw_tbl by 'hts w (by decide +kernel)'), the script of L ints xs at the cell b, what the Statement gives of the start (any of its parts by flat_of_before) -/
def lw_At (p : Program) (s : State) (m : MethodId) (meth : Method) (c : Code) (b L : Nat) (xs : Nat → Int32) : Prop :=
  p.tables.exec = Jvm.exec ∧ c.code = code ∧ meth.sig.returnType = ret ∧ c.maxLocals = 4 ∧ s.vm.findClass R_law = some m.cls ∧ (∀ w ∈ lw_tbl, w.before #[Value.ref b] s = true) ∧ va_X b L xs s s.heap ∧ b < s.heap.size ∧ meth.locks = false ∧ (Jvm.Cond.and given_1 narrow_1).before #[Value.ref b] s = true
