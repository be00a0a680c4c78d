/-! the law: what its steps have in common -/
def bz (a : Int32) : Int32 := if a = 0 then 0 else 1
theorem bz_01 (a : Int32) : bz a = 0 ∨ bz a = 1 := by
  unfold bz
  by_cases h : a = 0
  · exact Or.inl (if_pos h)
  · exact Or.inr (if_neg h)
/-- a long out of two ints -/
def lw (a b : Int32) : Int64 := (a.toInt64 <<< ((32 : Int32).toInt64 &&& 63)) ||| (b.toInt64 &&& (4294967295 : Int64))
theorem rt_P {D : va_G} {wr wc : va_W} {H : Heap} (h : va_P D vwCl (wr ++ wc) H) : va_P D vwCl wc H := fun k q hk => h (wr.length + k) q ((ap_get rfl).trans hk)
theorem rt_D {A : Nat → Prop} {wr wc : va_W} (h : va_D A (wr ++ wc)) : va_D A wc := by
  refine ⟨fun i j p q hi hj e => ?_, fun k q hk => h.2 (wr.length + k) q ((ap_get rfl).trans hk)⟩
  have := h.1 (wr.length + i) (wr.length + j) p q ((ap_get rfl).trans hi) ((ap_get rfl).trans hj) e
  omega
section LD
variable {p : Program} {l : Launch} {e : Env} {R : Room} {s : State} {m : MethodId} {args : Array Value} {below : List Frame} {meth : Method} {c : Code} {H H0 : Heap} {locs : List Loc} {cells slots pc : Nat} {Q : State → Prop} {ls : Array Slot} {rest : List Value} {A : Nat → Prop} {cc : ByteArray} {b L i x y : Nat} {xs : Nat → Int32}
theorem ld_s (hx : p.tables.exec = Jvm.exec) (hb : c.code = cc) (hl : lv_has ls 4 [(3, .int (nI i)), (2, .ref y), (1, .ref x), (0, .ref b)]) (hX : va_X b L xs s H0) (hbl : b < H0.size) (hbA : ¬ A b) (hS : va_S A H0 H locs) (hi : i + 6 ≤ L) (hL : L ≤ 3072) {n : Nat} {z : Int} (hn : n < 6) (hz : Int32.ofInt z = nI n) (d0 : decode cc pc = .ok (.aload_n 0, 1)) (d1 : decode cc (pc + 1) = .ok (.iload_n 3, 1)) (d2 : decode cc (pc + 2) = .ok (.iconst z, 1)) (d3 : decode cc (pc + 3) = .ok (.iadd, 1)) (d4 : decode cc (pc + 4) = .ok (.iaload, 1))
    (k : W p l e R s m args below meth c H locs cells slots Q (F0 m (pc + 5) ls (.int (xs (i + n)) :: rest))) : W p l e R s m args below meth c H locs cells slots Q (F0 m pc ls rest) := by
  refine lv_aload_n hx hb d0 rfl (lv_at hl 3 rfl) ?_
  refine lv_iload_n hx hb d1 rfl (lv_at hl 0 rfl) ?_
  refine lv_iconst (v := nI n) hx hb d2 hz ?_
  refine lv_iadd hx hb d3 ?_
  rw [nI_add]
  refine va_sld hx hb hX hbl hbA hS (show vp_in (nI (i + n)) L from nI_in (by omega) (by omega)) d4 ?_
  rw [nI_clamp (by omega)]
  exact k
theorem jn_b {a : Int32} (hx : p.tables.exec = Jvm.exec) (hb : c.code = cc) (d0 : decode cc pc = .ok (.ifCond .eq 7, 3)) (d1 : decode cc (pc + 3) = .ok (.iconst 1, 1)) (d2 : decode cc (pc + 3 + 1) = .ok (.goto 4, 3)) (d3 : decode cc (pc + 7) = .ok (.iconst 0, 1))
    (k : W p l e R s m args below meth c H locs cells slots Q (F0 m (pc + 8) ls (.int (bz a) :: rest))) : W p l e R s m args below meth c H locs cells slots Q (F0 m pc ls (.int a :: rest)) := by
  refine lv_if_eq (tgt := pc + 7) hx hb d0 (by omega) (fun c1 => ?_) (fun c1 => ?_)
  · rw [show bz a = 0 from if_pos c1] at k
    exact lv_iconst (v := (0 : Int32)) hx hb d3 (by decide) k
  · rw [show bz a = 1 from if_neg c1] at k
    refine lv_iconst (v := (1 : Int32)) hx hb d1 (by decide) ?_
    exact lv_goto (tgt := pc + 8) hx hb d2 (by omega) k
end LD
def LX (p : Program) (s : State) (m : MethodId) (c : Code) (b L : Nat) (xs : Nat → Int32) (dC : Nat → ClassId) (dI : Nat → Nat → Nat) (cy : Nat → ClassId) : Prop := p.tables.exec = Jvm.exec ∧ c.code = cL_law ∧ c.maxLocals = 4 ∧ s.vm.findClass RL = some m.cls ∧ (∀ w ∈ wsL_law, w.before #[Value.ref b] s = true) ∧ va_X b L xs s s.heap ∧ b < s.heap.size ∧ va_K (dC, dI) vwCl (tyA cy) s ∧ kX s ∧ L ≤ 3072
/-- the class and the reference stand side by side, and agree -/
def ST (s : State) (dC : Nat → ClassId) (dI : Nat → Nat → Nat) (cy : Nat → ClassId) (x y k : Nat) (ad bd : Nat → Nat) (o : Os) (mm : Ms) (H : Heap) (locs : List Loc) : Prop := rl k o mm ∧ va_P (dC, dI) vwCl (WX cy x ad o ++ WM cy y bd mm) H ∧ va_D (fun q : Nat => s.heap.size ≤ q) (WX cy x ad o ++ WM cy y bd mm) ∧ va_S (fun q : Nat => s.heap.size ≤ q) s.heap H locs
theorem mL_13 : (.constantLong RL 13 4294967295 : Cond) ∈ wsL_law := by decide +kernel
section LC
variable {p : Program} {l : Launch} {e : Env} {s : State} {m : MethodId} {below : List Frame} {meth : Method} {c : Code} {H : Heap} {locs : List Loc} {cs sl k : Nat} {Q : State → Prop} {ls : Array Slot} {b L i x y : Nat} {xs : Nat → Int32} {dC : Nat → ClassId} {dI : Nat → Nat → Nat} {cy : Nat → ClassId} {ad bd : Nat → Nat} {o : Os} {mm : Ms}
/-- how a call's end goes on -/
def FN (p : Program) (l : Launch) (e : Env) (s : State) (m : MethodId) (below : List Frame) (meth : Method) (c : Code) (cs sl k : Nat) (Q : State → Prop) (ls : Array Slot) (b x y : Nat) (dC : Nat → ClassId) (dI : Nat → Nat → Nat) (cy : Nat → ClassId) (bd : Nat → Nat) : Prop := ∀ (o' : Os) (m' : Ms) (ad' : Nat → Nat) (H' : Heap) (locs' : List Loc), ST s dC dI cy x y (k + 4) ad' bd o' m' H' locs' → W p l e room_1 s m #[Value.ref b] below meth c H' locs' (cs + 1) (sl + 4) Q (F0 m 1424 ls [])
set_option maxHeartbeats 4000000 in
set_option maxRecDepth 100000 in
theorem lc_dial (X : LX p s m c b L xs dC dI cy) (hi : i + 6 ≤ L) (hl : lv_has ls 4 [(3, .int (nI i)), (2, .ref y), (1, .ref x), (0, .ref b)]) (h : ST s dC dI cy x y k ad bd o mm H locs) (hk4 : k + 4 ≤ 2048) (hc : cs + 1 ≤ 600000) (hsl : sl + 4 ≤ 7302250) (fin : FN p l e s m below meth c cs sl k Q ls b x y dC dI cy bd) : W p l e room_1 s m #[Value.ref b] below meth c H locs cs sl Q (F0 m 148 ls []) := by
  obtain ⟨hx, hb, hml, hown, hts, hX, hbl, hK, hk, hL⟩ := X
  obtain ⟨h, hP, hD, hS⟩ := h
  have hA : ∀ q : Nat, s.heap.size ≤ q → (fun q : Nat => s.heap.size ≤ q) q := fun _ h => h
  have hbA : ¬ (fun q : Nat => s.heap.size ≤ q) b := Nat.not_le.mpr hbl
  obtain ⟨s2, e1, e2⟩ := ok_dial h (bz (xs (i + 1))) (lw (xs (i + 2)) (xs (i + 3))) (bz_01 _)
  refine lv_aload_n hx hb dL_law_148 rfl (lv_at hl 2 rfl) ?_
  refine ld_s hx hb hl hX hbl hbA hS hi hL (n := 1) (by decide) rfl dL_law_149 dL_law_150 dL_law_151 dL_law_152 dL_law_153 ?_
  refine jn_b hx hb dL_law_154 dL_law_157 dL_law_158 dL_law_161 ?_
  refine ld_s hx hb hl hX hbl hbA hS hi hL (n := 2) (by decide) rfl dL_law_162 dL_law_163 dL_law_164 dL_law_165 dL_law_166 ?_
  refine lv_i2l (v := (xs (i + 2)).toInt64) hx hb dL_law_167 rfl ?_
  refine lv_bipush (v := (32 : Int32)) hx hb dL_law_168 (by decide) ?_
  refine lv_lshl (v := ((xs (i + 2)).toInt64 <<< ((32 : Int32).toInt64 &&& 63))) hx hb dL_law_170 rfl ?_
  refine ld_s hx hb hl hX hbl hbA hS hi hL (n := 3) (by decide) rfl dL_law_171 dL_law_172 dL_law_173 dL_law_174 dL_law_175 ?_
  refine lv_i2l (v := (xs (i + 3)).toInt64) hx hb dL_law_176 rfl ?_
  refine lv_ldc2 (v := (4294967295 : Int64)) hx hb hown (hts (.constantLong RL 13 4294967295) mL_13) dL_law_177 ?_
  refine lv_land hx hb dL_law_180 ?_
  refine lv_lor hx hb dL_law_181 ?_
  have hP1 := va_P_perm (List.perm_append_comm (l₁ := WX cy x ad o) (l₂ := WM cy y bd mm)) hP
  have hD1 := va_D_perm (List.perm_append_comm (l₁ := WX cy x ad o) (l₂ := WM cy y bd mm)) hD
  refine cl_gi (wr := WM cy y bd mm) (wc := WX cy x ad o) (va_runV (As := [.int (bz (xs (i + 1))), .long (lw (xs (i + 2)) (xs (i + 3)))]) (rest := []) ⟨hx, hb, hml, hown, hts⟩ (qX7_dial l dC dI cy x ad H.size o (bz (xs (i + 1))) (lw (xs (i + 2)) (xs (i + 3))) (bz_01 _) h.1.1.1) (cwV 2 hts gL_law_X7_dial rfl rfl rfl (by decide +kernel) ⟨Nat.le_of_ble_eq_true rfl, Nat.le_of_ble_eq_true rfl⟩) (pV hK (rt_P hP1) (rt_D hD1) hk (q0 := 0) (wx_h (o := o) rfl) rfl) rfl rfl hl.1 rfl (lv_room (Nat.le_of_ble_eq_true rfl)) dL_law_182 ⟨show _ ≤ 600000 by omega, show _ ≤ 7302250 by omega⟩) hP1 hD1 hS hA (fun r u H locs hw hP hD hS => ?_)
  have hP := va_P_perm (List.perm_append_comm (l₁ := WM cy y bd mm) (l₂ := WX cy x u.2 u.1)) hP
  have hD := va_D_perm (List.perm_append_comm (l₁ := WM cy y bd mm) (l₂ := WX cy x u.2 u.1)) hD
  refine lv_aload_n hx hb dL_law_185 rfl (lv_at hl 1 rfl) ?_
  refine ld_s hx hb hl hX hbl hbA hS hi hL (n := 1) (by decide) rfl dL_law_186 dL_law_187 dL_law_188 dL_law_189 dL_law_190 ?_
  refine jn_b hx hb dL_law_191 dL_law_194 dL_law_195 dL_law_198 ?_
  refine ld_s hx hb hl hX hbl hbA hS hi hL (n := 2) (by decide) rfl dL_law_199 dL_law_200 dL_law_201 dL_law_202 dL_law_203 ?_
  refine lv_i2l (v := (xs (i + 2)).toInt64) hx hb dL_law_204 rfl ?_
  refine lv_bipush (v := (32 : Int32)) hx hb dL_law_205 (by decide) ?_
  refine lv_lshl (v := ((xs (i + 2)).toInt64 <<< ((32 : Int32).toInt64 &&& 63))) hx hb dL_law_207 rfl ?_
  refine ld_s hx hb hl hX hbl hbA hS hi hL (n := 3) (by decide) rfl dL_law_208 dL_law_209 dL_law_210 dL_law_211 dL_law_212 ?_
  refine lv_i2l (v := (xs (i + 3)).toInt64) hx hb dL_law_213 rfl ?_
  refine lv_ldc2 (v := (4294967295 : Int64)) hx hb hown (hts (.constantLong RL 13 4294967295) mL_13) dL_law_214 ?_
  refine lv_land hx hb dL_law_217 ?_
  refine lv_lor hx hb dL_law_218 ?_
  refine cl_gi (wr := WX cy x u.2 u.1) (wc := WM cy y bd mm) (va_runV (As := [.int (bz (xs (i + 1))), .long (lw (xs (i + 2)) (xs (i + 3)))]) (rest := [.int r]) ⟨hx, hb, hml, hown, hts⟩ (qX8_dial l dC dI cy y bd H.size mm (bz (xs (i + 1))) (lw (xs (i + 2)) (xs (i + 3))) s2) (cwV 2 hts gL_law_X8_dial rfl rfl rfl (by decide +kernel) ⟨Nat.le_of_ble_eq_true rfl, Nat.le_of_ble_eq_true rfl⟩) (pV hK (rt_P hP) (rt_D hD) hk (q0 := 0) rfl rfl) rfl rfl hl.1 rfl (lv_room (Nat.le_of_ble_eq_true rfl)) dL_law_219 ⟨show _ ≤ 600000 by omega, show _ ≤ 7302250 by omega⟩) hP hD hS hA (fun r2 u2 H locs hw2 hP hD hS => ?_)
  have er : r = r2 := (congrArg Prod.fst hw).trans (e1.trans (congrArg Prod.fst hw2).symm)
  have eu : u.1 = _ := congrArg Prod.snd hw
  have ev : u2 = _ := congrArg Prod.snd hw2
  rw [← eu, ← ev] at e2
  refine lv_icmp_eq (tgt := 1424) hx hb dL_law_222 (by decide) (fun cq => ?_) (fun cq => absurd er cq)
  refine W.widen (k := cs + 1) (n := sl + 4) (by omega) (by omega) ?_
  exact fin u.1 u2 u.2 H locs ⟨e2.more (by omega), hP, hD, hS⟩
set_option maxHeartbeats 4000000 in
set_option maxRecDepth 100000 in
theorem lc_turn (X : LX p s m c b L xs dC dI cy) (hi : i + 6 ≤ L) (hl : lv_has ls 4 [(3, .int (nI i)), (2, .ref y), (1, .ref x), (0, .ref b)]) (h : ST s dC dI cy x y k ad bd o mm H locs) (hk4 : k + 4 ≤ 2048) (hc : cs + 1 ≤ 600000) (hsl : sl + 4 ≤ 7302250) (fin : FN p l e s m below meth c cs sl k Q ls b x y dC dI cy bd) : W p l e room_1 s m #[Value.ref b] below meth c H locs cs sl Q (F0 m 227 ls []) := by
  obtain ⟨hx, hb, hml, hown, hts, hX, hbl, hK, hk, hL⟩ := X
  obtain ⟨h, hP, hD, hS⟩ := h
  have hA : ∀ q : Nat, s.heap.size ≤ q → (fun q : Nat => s.heap.size ≤ q) q := fun _ h => h
  have hbA : ¬ (fun q : Nat => s.heap.size ≤ q) b := Nat.not_le.mpr hbl
  obtain ⟨s1, s2, e1, e2⟩ := ok_turn h (xs (i + 1)) (lw (xs (i + 2)) (xs (i + 3))) 
  refine lv_aload_n hx hb dL_law_227 rfl (lv_at hl 2 rfl) ?_
  refine ld_s hx hb hl hX hbl hbA hS hi hL (n := 1) (by decide) rfl dL_law_228 dL_law_229 dL_law_230 dL_law_231 dL_law_232 ?_
  refine ld_s hx hb hl hX hbl hbA hS hi hL (n := 2) (by decide) rfl dL_law_233 dL_law_234 dL_law_235 dL_law_236 dL_law_237 ?_
  refine lv_i2l (v := (xs (i + 2)).toInt64) hx hb dL_law_238 rfl ?_
  refine lv_bipush (v := (32 : Int32)) hx hb dL_law_239 (by decide) ?_
  refine lv_lshl (v := ((xs (i + 2)).toInt64 <<< ((32 : Int32).toInt64 &&& 63))) hx hb dL_law_241 rfl ?_
  refine ld_s hx hb hl hX hbl hbA hS hi hL (n := 3) (by decide) rfl dL_law_242 dL_law_243 dL_law_244 dL_law_245 dL_law_246 ?_
  refine lv_i2l (v := (xs (i + 3)).toInt64) hx hb dL_law_247 rfl ?_
  refine lv_ldc2 (v := (4294967295 : Int64)) hx hb hown (hts (.constantLong RL 13 4294967295) mL_13) dL_law_248 ?_
  refine lv_land hx hb dL_law_251 ?_
  refine lv_lor hx hb dL_law_252 ?_
  have hP1 := va_P_perm (List.perm_append_comm (l₁ := WX cy x ad o) (l₂ := WM cy y bd mm)) hP
  have hD1 := va_D_perm (List.perm_append_comm (l₁ := WX cy x ad o) (l₂ := WM cy y bd mm)) hD
  refine cl_gi (wr := WM cy y bd mm) (wc := WX cy x ad o) (va_runV (As := [.int (xs (i + 1)), .long (lw (xs (i + 2)) (xs (i + 3)))]) (rest := []) ⟨hx, hb, hml, hown, hts⟩ (qX7_turn l dC dI cy x ad H.size o (xs (i + 1)) (lw (xs (i + 2)) (xs (i + 3))) s1) (cwV 2 hts gL_law_X7_turn rfl rfl rfl (by decide +kernel) ⟨Nat.le_of_ble_eq_true rfl, Nat.le_of_ble_eq_true rfl⟩) (pV hK (rt_P hP1) (rt_D hD1) hk (q0 := 0) (wx_h (o := o) rfl) rfl) rfl rfl hl.1 rfl (lv_room (Nat.le_of_ble_eq_true rfl)) dL_law_253 ⟨show _ ≤ 600000 by omega, show _ ≤ 7302250 by omega⟩) hP1 hD1 hS hA (fun r u H locs hw hP hD hS => ?_)
  have hP := va_P_perm (List.perm_append_comm (l₁ := WM cy y bd mm) (l₂ := WX cy x ad u)) hP
  have hD := va_D_perm (List.perm_append_comm (l₁ := WM cy y bd mm) (l₂ := WX cy x ad u)) hD
  refine lv_aload_n hx hb dL_law_256 rfl (lv_at hl 1 rfl) ?_
  refine ld_s hx hb hl hX hbl hbA hS hi hL (n := 1) (by decide) rfl dL_law_257 dL_law_258 dL_law_259 dL_law_260 dL_law_261 ?_
  refine ld_s hx hb hl hX hbl hbA hS hi hL (n := 2) (by decide) rfl dL_law_262 dL_law_263 dL_law_264 dL_law_265 dL_law_266 ?_
  refine lv_i2l (v := (xs (i + 2)).toInt64) hx hb dL_law_267 rfl ?_
  refine lv_bipush (v := (32 : Int32)) hx hb dL_law_268 (by decide) ?_
  refine lv_lshl (v := ((xs (i + 2)).toInt64 <<< ((32 : Int32).toInt64 &&& 63))) hx hb dL_law_270 rfl ?_
  refine ld_s hx hb hl hX hbl hbA hS hi hL (n := 3) (by decide) rfl dL_law_271 dL_law_272 dL_law_273 dL_law_274 dL_law_275 ?_
  refine lv_i2l (v := (xs (i + 3)).toInt64) hx hb dL_law_276 rfl ?_
  refine lv_ldc2 (v := (4294967295 : Int64)) hx hb hown (hts (.constantLong RL 13 4294967295) mL_13) dL_law_277 ?_
  refine lv_land hx hb dL_law_280 ?_
  refine lv_lor hx hb dL_law_281 ?_
  refine cl_gi (wr := WX cy x ad u) (wc := WM cy y bd mm) (va_runV (As := [.int (xs (i + 1)), .long (lw (xs (i + 2)) (xs (i + 3)))]) (rest := [.int r]) ⟨hx, hb, hml, hown, hts⟩ (qX8_turn l dC dI cy y bd H.size mm (xs (i + 1)) (lw (xs (i + 2)) (xs (i + 3))) s2) (cwV 2 hts gL_law_X8_turn rfl rfl rfl (by decide +kernel) ⟨Nat.le_of_ble_eq_true rfl, Nat.le_of_ble_eq_true rfl⟩) (pV hK (rt_P hP) (rt_D hD) hk (q0 := 0) rfl rfl) rfl rfl hl.1 rfl (lv_room (Nat.le_of_ble_eq_true rfl)) dL_law_282 ⟨show _ ≤ 600000 by omega, show _ ≤ 7302250 by omega⟩) hP hD hS hA (fun r2 u2 H locs hw2 hP hD hS => ?_)
  have er : r = r2 := (congrArg Prod.fst hw).trans (e1.trans (congrArg Prod.fst hw2).symm)
  have eu : u = _ := congrArg Prod.snd hw
  have ev : u2 = _ := congrArg Prod.snd hw2
  rw [← eu, ← ev] at e2
  refine lv_icmp_eq (tgt := 1424) hx hb dL_law_285 (by decide) (fun cq => ?_) (fun cq => absurd er cq)
  refine W.widen (k := cs + 1) (n := sl + 4) (by omega) (by omega) ?_
  exact fin u u2 ad H locs ⟨e2.more (by omega), hP, hD, hS⟩
set_option maxHeartbeats 4000000 in
set_option maxRecDepth 100000 in
theorem lc_spin (X : LX p s m c b L xs dC dI cy) (hi : i + 6 ≤ L) (hl : lv_has ls 4 [(3, .int (nI i)), (2, .ref y), (1, .ref x), (0, .ref b)]) (h : ST s dC dI cy x y k ad bd o mm H locs) (hk4 : k + 4 ≤ 2048) (hc : cs + 1 ≤ 600000) (hsl : sl + 4 ≤ 7302250) (fin : FN p l e s m below meth c cs sl k Q ls b x y dC dI cy bd) : W p l e room_1 s m #[Value.ref b] below meth c H locs cs sl Q (F0 m 290 ls []) := by
  obtain ⟨hx, hb, hml, hown, hts, hX, hbl, hK, hk, hL⟩ := X
  obtain ⟨h, hP, hD, hS⟩ := h
  have hA : ∀ q : Nat, s.heap.size ≤ q → (fun q : Nat => s.heap.size ≤ q) q := fun _ h => h
  have hbA : ¬ (fun q : Nat => s.heap.size ≤ q) b := Nat.not_le.mpr hbl
  obtain ⟨s1, s2, e1, e2⟩ := ok_spin h (xs (i + 1)) (lw (xs (i + 2)) (xs (i + 3))) (xs (i + 4)) 
  refine lv_aload_n hx hb dL_law_290 rfl (lv_at hl 2 rfl) ?_
  refine ld_s hx hb hl hX hbl hbA hS hi hL (n := 1) (by decide) rfl dL_law_291 dL_law_292 dL_law_293 dL_law_294 dL_law_295 ?_
  refine ld_s hx hb hl hX hbl hbA hS hi hL (n := 2) (by decide) rfl dL_law_296 dL_law_297 dL_law_298 dL_law_299 dL_law_300 ?_
  refine lv_i2l (v := (xs (i + 2)).toInt64) hx hb dL_law_301 rfl ?_
  refine lv_bipush (v := (32 : Int32)) hx hb dL_law_302 (by decide) ?_
  refine lv_lshl (v := ((xs (i + 2)).toInt64 <<< ((32 : Int32).toInt64 &&& 63))) hx hb dL_law_304 rfl ?_
  refine ld_s hx hb hl hX hbl hbA hS hi hL (n := 3) (by decide) rfl dL_law_305 dL_law_306 dL_law_307 dL_law_308 dL_law_309 ?_
  refine lv_i2l (v := (xs (i + 3)).toInt64) hx hb dL_law_310 rfl ?_
  refine lv_ldc2 (v := (4294967295 : Int64)) hx hb hown (hts (.constantLong RL 13 4294967295) mL_13) dL_law_311 ?_
  refine lv_land hx hb dL_law_314 ?_
  refine lv_lor hx hb dL_law_315 ?_
  refine ld_s hx hb hl hX hbl hbA hS hi hL (n := 4) (by decide) rfl dL_law_316 dL_law_317 dL_law_318 dL_law_319 dL_law_320 ?_
  have hP1 := va_P_perm (List.perm_append_comm (l₁ := WX cy x ad o) (l₂ := WM cy y bd mm)) hP
  have hD1 := va_D_perm (List.perm_append_comm (l₁ := WX cy x ad o) (l₂ := WM cy y bd mm)) hD
  refine cl_gi (wr := WM cy y bd mm) (wc := WX cy x ad o) (va_runV (As := [.int (xs (i + 1)), .long (lw (xs (i + 2)) (xs (i + 3))), .int (xs (i + 4))]) (rest := []) ⟨hx, hb, hml, hown, hts⟩ (qX7_spin l dC dI cy x ad H.size o (xs (i + 1)) (lw (xs (i + 2)) (xs (i + 3))) (xs (i + 4)) s1) (cwV 3 hts gL_law_X7_spin rfl rfl rfl (by decide +kernel) ⟨Nat.le_of_ble_eq_true rfl, Nat.le_of_ble_eq_true rfl⟩) (pV hK (rt_P hP1) (rt_D hD1) hk (q0 := 0) (wx_h (o := o) rfl) rfl) rfl rfl hl.1 rfl (lv_room (Nat.le_of_ble_eq_true rfl)) dL_law_321 ⟨show _ ≤ 600000 by omega, show _ ≤ 7302250 by omega⟩) hP1 hD1 hS hA (fun r u H locs hw hP hD hS => ?_)
  have hP := va_P_perm (List.perm_append_comm (l₁ := WM cy y bd mm) (l₂ := WX cy x ad u)) hP
  have hD := va_D_perm (List.perm_append_comm (l₁ := WM cy y bd mm) (l₂ := WX cy x ad u)) hD
  refine lv_aload_n hx hb dL_law_324 rfl (lv_at hl 1 rfl) ?_
  refine ld_s hx hb hl hX hbl hbA hS hi hL (n := 1) (by decide) rfl dL_law_325 dL_law_326 dL_law_327 dL_law_328 dL_law_329 ?_
  refine ld_s hx hb hl hX hbl hbA hS hi hL (n := 2) (by decide) rfl dL_law_330 dL_law_331 dL_law_332 dL_law_333 dL_law_334 ?_
  refine lv_i2l (v := (xs (i + 2)).toInt64) hx hb dL_law_335 rfl ?_
  refine lv_bipush (v := (32 : Int32)) hx hb dL_law_336 (by decide) ?_
  refine lv_lshl (v := ((xs (i + 2)).toInt64 <<< ((32 : Int32).toInt64 &&& 63))) hx hb dL_law_338 rfl ?_
  refine ld_s hx hb hl hX hbl hbA hS hi hL (n := 3) (by decide) rfl dL_law_339 dL_law_340 dL_law_341 dL_law_342 dL_law_343 ?_
  refine lv_i2l (v := (xs (i + 3)).toInt64) hx hb dL_law_344 rfl ?_
  refine lv_ldc2 (v := (4294967295 : Int64)) hx hb hown (hts (.constantLong RL 13 4294967295) mL_13) dL_law_345 ?_
  refine lv_land hx hb dL_law_348 ?_
  refine lv_lor hx hb dL_law_349 ?_
  refine ld_s hx hb hl hX hbl hbA hS hi hL (n := 4) (by decide) rfl dL_law_350 dL_law_351 dL_law_352 dL_law_353 dL_law_354 ?_
  refine cl_gi (wr := WX cy x ad u) (wc := WM cy y bd mm) (va_runV (As := [.int (xs (i + 1)), .long (lw (xs (i + 2)) (xs (i + 3))), .int (xs (i + 4))]) (rest := [.int r]) ⟨hx, hb, hml, hown, hts⟩ (qX8_spin l dC dI cy y bd H.size mm (xs (i + 1)) (lw (xs (i + 2)) (xs (i + 3))) (xs (i + 4)) s2) (cwV 3 hts gL_law_X8_spin rfl rfl rfl (by decide +kernel) ⟨Nat.le_of_ble_eq_true rfl, Nat.le_of_ble_eq_true rfl⟩) (pV hK (rt_P hP) (rt_D hD) hk (q0 := 0) rfl rfl) rfl rfl hl.1 rfl (lv_room (Nat.le_of_ble_eq_true rfl)) dL_law_355 ⟨show _ ≤ 600000 by omega, show _ ≤ 7302250 by omega⟩) hP hD hS hA (fun r2 u2 H locs hw2 hP hD hS => ?_)
  have er : r = r2 := (congrArg Prod.fst hw).trans (e1.trans (congrArg Prod.fst hw2).symm)
  have eu : u = _ := congrArg Prod.snd hw
  have ev : u2 = _ := congrArg Prod.snd hw2
  rw [← eu, ← ev] at e2
  refine lv_icmp_eq (tgt := 1424) hx hb dL_law_358 (by decide) (fun cq => ?_) (fun cq => absurd er cq)
  refine W.widen (k := cs + 1) (n := sl + 4) (by omega) (by omega) ?_
  exact fin u u2 ad H locs ⟨e2.more (by omega), hP, hD, hS⟩
set_option maxHeartbeats 4000000 in
set_option maxRecDepth 100000 in
theorem lc_place (X : LX p s m c b L xs dC dI cy) (hi : i + 6 ≤ L) (hl : lv_has ls 4 [(3, .int (nI i)), (2, .ref y), (1, .ref x), (0, .ref b)]) (h : ST s dC dI cy x y k ad bd o mm H locs) (hk4 : k + 4 ≤ 2048) (hc : cs + 1 ≤ 600000) (hsl : sl + 4 ≤ 7302250) (fin : FN p l e s m below meth c cs sl k Q ls b x y dC dI cy bd) : W p l e room_1 s m #[Value.ref b] below meth c H locs cs sl Q (F0 m 363 ls []) := by
  obtain ⟨hx, hb, hml, hown, hts, hX, hbl, hK, hk, hL⟩ := X
  obtain ⟨h, hP, hD, hS⟩ := h
  have hA : ∀ q : Nat, s.heap.size ≤ q → (fun q : Nat => s.heap.size ≤ q) q := fun _ h => h
  have hbA : ¬ (fun q : Nat => s.heap.size ≤ q) b := Nat.not_le.mpr hbl
  obtain ⟨s1, s2, e1⟩ := ok_place h (xs (i + 1)) (xs (i + 2)) 
  refine lv_aload_n hx hb dL_law_363 rfl (lv_at hl 2 rfl) ?_
  refine ld_s hx hb hl hX hbl hbA hS hi hL (n := 1) (by decide) rfl dL_law_364 dL_law_365 dL_law_366 dL_law_367 dL_law_368 ?_
  refine ld_s hx hb hl hX hbl hbA hS hi hL (n := 2) (by decide) rfl dL_law_369 dL_law_370 dL_law_371 dL_law_372 dL_law_373 ?_
  have hP1 := va_P_perm (List.perm_append_comm (l₁ := WX cy x ad o) (l₂ := WM cy y bd mm)) hP
  have hD1 := va_D_perm (List.perm_append_comm (l₁ := WX cy x ad o) (l₂ := WM cy y bd mm)) hD
  refine vp_callSl (W.runV (As := [.int (xs (i + 1)), .int (xs (i + 2))]) (rest := []) ⟨hx, hb, hml, hown, hts⟩ (qX7_place l dC dI cy x ad H.size o (xs (i + 1)) (xs (i + 2)) s1) (cwV 2 hts gL_law_X7_place rfl rfl rfl (by decide +kernel) ⟨Nat.le_of_ble_eq_true rfl, Nat.le_of_ble_eq_true rfl⟩) (pV hK (rt_P hP1) (rt_D hD1) hk (q0 := 0) (wx_h (o := o) rfl) rfl) rfl rfl hl.1 rfl (lv_room (Nat.le_of_ble_eq_true rfl)) dL_law_374 ⟨show _ ≤ 600000 by omega, show _ ≤ 7302250 by omega⟩) (fun r hr1 => ?_)
  refine lv_aload_n hx hb dL_law_377 rfl (lv_at hl 1 rfl) ?_
  refine ld_s hx hb hl hX hbl hbA hS hi hL (n := 1) (by decide) rfl dL_law_378 dL_law_379 dL_law_380 dL_law_381 dL_law_382 ?_
  refine ld_s hx hb hl hX hbl hbA hS hi hL (n := 2) (by decide) rfl dL_law_383 dL_law_384 dL_law_385 dL_law_386 dL_law_387 ?_
  refine vp_callSl (W.runV (As := [.int (xs (i + 1)), .int (xs (i + 2))]) (rest := [.long r]) ⟨hx, hb, hml, hown, hts⟩ (qX8_place l dC dI cy y bd H.size mm (xs (i + 1)) (xs (i + 2)) s2) (cwV 2 hts gL_law_X8_place rfl rfl rfl (by decide +kernel) ⟨Nat.le_of_ble_eq_true rfl, Nat.le_of_ble_eq_true rfl⟩) (pV hK (rt_P hP) (rt_D hD) hk (q0 := 0) rfl rfl) rfl rfl hl.1 rfl (lv_room (Nat.le_of_ble_eq_true rfl)) dL_law_388 ⟨show _ ≤ 600000 by omega, show _ ≤ 7302250 by omega⟩) (fun r2 hr2 => ?_)
  have er : r = r2 := hr1.trans (e1.trans hr2.symm)
  refine W.lcmp hx hb dL_law_391 ?_
  refine lv_if_eq (tgt := 1424) hx hb dL_law_392 (by decide) (fun cq => ?_) (fun cq => absurd er (mt (lg_cmp_eq _ _).mpr cq))
  refine W.widen (k := cs + 1) (n := sl + 4) (by omega) (by omega) ?_
  exact fin o mm ad H locs ⟨h.more (by omega), hP, hD, hS⟩
set_option maxHeartbeats 4000000 in
set_option maxRecDepth 100000 in
theorem lc_laps (X : LX p s m c b L xs dC dI cy) (hi : i + 6 ≤ L) (hl : lv_has ls 4 [(3, .int (nI i)), (2, .ref y), (1, .ref x), (0, .ref b)]) (h : ST s dC dI cy x y k ad bd o mm H locs) (hk4 : k + 4 ≤ 2048) (hc : cs + 1 ≤ 600000) (hsl : sl + 4 ≤ 7302250) (fin : FN p l e s m below meth c cs sl k Q ls b x y dC dI cy bd) : W p l e room_1 s m #[Value.ref b] below meth c H locs cs sl Q (F0 m 397 ls []) := by
  obtain ⟨hx, hb, hml, hown, hts, hX, hbl, hK, hk, hL⟩ := X
  obtain ⟨h, hP, hD, hS⟩ := h
  have hA : ∀ q : Nat, s.heap.size ≤ q → (fun q : Nat => s.heap.size ≤ q) q := fun _ h => h
  have hbA : ¬ (fun q : Nat => s.heap.size ≤ q) b := Nat.not_le.mpr hbl
  obtain ⟨s1, s2, e1⟩ := ok_laps h (xs (i + 1)) 
  refine lv_aload_n hx hb dL_law_397 rfl (lv_at hl 2 rfl) ?_
  refine ld_s hx hb hl hX hbl hbA hS hi hL (n := 1) (by decide) rfl dL_law_398 dL_law_399 dL_law_400 dL_law_401 dL_law_402 ?_
  have hP1 := va_P_perm (List.perm_append_comm (l₁ := WX cy x ad o) (l₂ := WM cy y bd mm)) hP
  have hD1 := va_D_perm (List.perm_append_comm (l₁ := WX cy x ad o) (l₂ := WM cy y bd mm)) hD
  refine vp_callSl (W.runV (As := [.int (xs (i + 1))]) (rest := []) ⟨hx, hb, hml, hown, hts⟩ (qX7_laps l dC dI cy x ad H.size o (xs (i + 1)) s1) (cwV 1 hts gL_law_X7_laps rfl rfl rfl (by decide +kernel) ⟨Nat.le_of_ble_eq_true rfl, Nat.le_of_ble_eq_true rfl⟩) (pV hK (rt_P hP1) (rt_D hD1) hk (q0 := 0) (wx_h (o := o) rfl) rfl) rfl rfl hl.1 rfl (lv_room (Nat.le_of_ble_eq_true rfl)) dL_law_403 ⟨show _ ≤ 600000 by omega, show _ ≤ 7302250 by omega⟩) (fun r hr1 => ?_)
  refine lv_aload_n hx hb dL_law_406 rfl (lv_at hl 1 rfl) ?_
  refine ld_s hx hb hl hX hbl hbA hS hi hL (n := 1) (by decide) rfl dL_law_407 dL_law_408 dL_law_409 dL_law_410 dL_law_411 ?_
  refine vp_callSl (W.runV (As := [.int (xs (i + 1))]) (rest := [.long r]) ⟨hx, hb, hml, hown, hts⟩ (qX8_laps l dC dI cy y bd H.size mm (xs (i + 1)) s2) (cwV 1 hts gL_law_X8_laps rfl rfl rfl (by decide +kernel) ⟨Nat.le_of_ble_eq_true rfl, Nat.le_of_ble_eq_true rfl⟩) (pV hK (rt_P hP) (rt_D hD) hk (q0 := 0) rfl rfl) rfl rfl hl.1 rfl (lv_room (Nat.le_of_ble_eq_true rfl)) dL_law_412 ⟨show _ ≤ 600000 by omega, show _ ≤ 7302250 by omega⟩) (fun r2 hr2 => ?_)
  have er : r = r2 := hr1.trans (e1.trans hr2.symm)
  refine W.lcmp hx hb dL_law_415 ?_
  refine lv_if_eq (tgt := 1424) hx hb dL_law_416 (by decide) (fun cq => ?_) (fun cq => absurd er (mt (lg_cmp_eq _ _).mpr cq))
  refine W.widen (k := cs + 1) (n := sl + 4) (by omega) (by omega) ?_
  exact fin o mm ad H locs ⟨h.more (by omega), hP, hD, hS⟩
set_option maxHeartbeats 4000000 in
set_option maxRecDepth 100000 in
theorem lc_fine (X : LX p s m c b L xs dC dI cy) (hi : i + 6 ≤ L) (hl : lv_has ls 4 [(3, .int (nI i)), (2, .ref y), (1, .ref x), (0, .ref b)]) (h : ST s dC dI cy x y k ad bd o mm H locs) (hk4 : k + 4 ≤ 2048) (hc : cs + 1 ≤ 600000) (hsl : sl + 4 ≤ 7302250) (fin : FN p l e s m below meth c cs sl k Q ls b x y dC dI cy bd) : W p l e room_1 s m #[Value.ref b] below meth c H locs cs sl Q (F0 m 421 ls []) := by
  obtain ⟨hx, hb, hml, hown, hts, hX, hbl, hK, hk, hL⟩ := X
  obtain ⟨h, hP, hD, hS⟩ := h
  have hA : ∀ q : Nat, s.heap.size ≤ q → (fun q : Nat => s.heap.size ≤ q) q := fun _ h => h
  have hbA : ¬ (fun q : Nat => s.heap.size ≤ q) b := Nat.not_le.mpr hbl
  obtain ⟨s1, s2, e1⟩ := ok_fine h (xs (i + 1)) 
  refine lv_aload_n hx hb dL_law_421 rfl (lv_at hl 2 rfl) ?_
  refine ld_s hx hb hl hX hbl hbA hS hi hL (n := 1) (by decide) rfl dL_law_422 dL_law_423 dL_law_424 dL_law_425 dL_law_426 ?_
  have hP1 := va_P_perm (List.perm_append_comm (l₁ := WX cy x ad o) (l₂ := WM cy y bd mm)) hP
  have hD1 := va_D_perm (List.perm_append_comm (l₁ := WX cy x ad o) (l₂ := WM cy y bd mm)) hD
  refine vp_callSi (W.runV (As := [.int (xs (i + 1))]) (rest := []) ⟨hx, hb, hml, hown, hts⟩ (qX7_fine l dC dI cy x ad H.size o (xs (i + 1)) s1) (cwV 1 hts gL_law_X7_fine rfl rfl rfl (by decide +kernel) ⟨Nat.le_of_ble_eq_true rfl, Nat.le_of_ble_eq_true rfl⟩) (pV hK (rt_P hP1) (rt_D hD1) hk (q0 := 0) (wx_h (o := o) rfl) rfl) rfl rfl hl.1 rfl (lv_room (Nat.le_of_ble_eq_true rfl)) dL_law_427 ⟨show _ ≤ 600000 by omega, show _ ≤ 7302250 by omega⟩) (fun r hr1 => ?_)
  refine lv_aload_n hx hb dL_law_430 rfl (lv_at hl 1 rfl) ?_
  refine ld_s hx hb hl hX hbl hbA hS hi hL (n := 1) (by decide) rfl dL_law_431 dL_law_432 dL_law_433 dL_law_434 dL_law_435 ?_
  refine vp_callSi (W.runV (As := [.int (xs (i + 1))]) (rest := [.int r]) ⟨hx, hb, hml, hown, hts⟩ (qX8_fine l dC dI cy y bd H.size mm (xs (i + 1)) s2) (cwV 1 hts gL_law_X8_fine rfl rfl rfl (by decide +kernel) ⟨Nat.le_of_ble_eq_true rfl, Nat.le_of_ble_eq_true rfl⟩) (pV hK (rt_P hP) (rt_D hD) hk (q0 := 0) rfl rfl) rfl rfl hl.1 rfl (lv_room (Nat.le_of_ble_eq_true rfl)) dL_law_436 ⟨show _ ≤ 600000 by omega, show _ ≤ 7302250 by omega⟩) (fun r2 hr2 => ?_)
  have er : r = r2 := hr1.trans (e1.trans hr2.symm)
  refine lv_icmp_eq (tgt := 1424) hx hb dL_law_439 (by decide) (fun cq => ?_) (fun cq => absurd er cq)
  refine W.widen (k := cs + 1) (n := sl + 4) (by omega) (by omega) ?_
  exact fin o mm ad H locs ⟨h.more (by omega), hP, hD, hS⟩
set_option maxHeartbeats 4000000 in
set_option maxRecDepth 100000 in
theorem lc_drive (X : LX p s m c b L xs dC dI cy) (hi : i + 6 ≤ L) (hl : lv_has ls 4 [(3, .int (nI i)), (2, .ref y), (1, .ref x), (0, .ref b)]) (h : ST s dC dI cy x y k ad bd o mm H locs) (hk4 : k + 4 ≤ 2048) (hc : cs + 1 ≤ 600000) (hsl : sl + 4 ≤ 7302250) (fin : FN p l e s m below meth c cs sl k Q ls b x y dC dI cy bd) : W p l e room_1 s m #[Value.ref b] below meth c H locs cs sl Q (F0 m 444 ls []) := by
  obtain ⟨hx, hb, hml, hown, hts, hX, hbl, hK, hk, hL⟩ := X
  obtain ⟨h, hP, hD, hS⟩ := h
  have hA : ∀ q : Nat, s.heap.size ≤ q → (fun q : Nat => s.heap.size ≤ q) q := fun _ h => h
  have hbA : ¬ (fun q : Nat => s.heap.size ≤ q) b := Nat.not_le.mpr hbl
  obtain ⟨s2, e1, e2⟩ := ok_drive h (xs (i + 1)) (lw (xs (i + 2)) (xs (i + 3))) 
  refine lv_aload_n hx hb dL_law_444 rfl (lv_at hl 2 rfl) ?_
  refine ld_s hx hb hl hX hbl hbA hS hi hL (n := 1) (by decide) rfl dL_law_445 dL_law_446 dL_law_447 dL_law_448 dL_law_449 ?_
  refine ld_s hx hb hl hX hbl hbA hS hi hL (n := 2) (by decide) rfl dL_law_450 dL_law_451 dL_law_452 dL_law_453 dL_law_454 ?_
  refine lv_i2l (v := (xs (i + 2)).toInt64) hx hb dL_law_455 rfl ?_
  refine lv_bipush (v := (32 : Int32)) hx hb dL_law_456 (by decide) ?_
  refine lv_lshl (v := ((xs (i + 2)).toInt64 <<< ((32 : Int32).toInt64 &&& 63))) hx hb dL_law_458 rfl ?_
  refine ld_s hx hb hl hX hbl hbA hS hi hL (n := 3) (by decide) rfl dL_law_459 dL_law_460 dL_law_461 dL_law_462 dL_law_463 ?_
  refine lv_i2l (v := (xs (i + 3)).toInt64) hx hb dL_law_464 rfl ?_
  refine lv_ldc2 (v := (4294967295 : Int64)) hx hb hown (hts (.constantLong RL 13 4294967295) mL_13) dL_law_465 ?_
  refine lv_land hx hb dL_law_468 ?_
  refine lv_lor hx hb dL_law_469 ?_
  have hP1 := va_P_perm (List.perm_append_comm (l₁ := WX cy x ad o) (l₂ := WM cy y bd mm)) hP
  have hD1 := va_D_perm (List.perm_append_comm (l₁ := WX cy x ad o) (l₂ := WM cy y bd mm)) hD
  refine cl_gi (wr := WM cy y bd mm) (wc := WX cy x ad o) (va_runV (As := [.int (xs (i + 1)), .long (lw (xs (i + 2)) (xs (i + 3)))]) (rest := []) ⟨hx, hb, hml, hown, hts⟩ (qX7_drive l dC dI cy x ad H.size o (xs (i + 1)) (lw (xs (i + 2)) (xs (i + 3))) h.1.1.1 h.1.2.1.1 (sl_of h).1 (sl_of h).2) (cwV 2 hts gL_law_X7_drive rfl rfl rfl (by decide +kernel) ⟨Nat.le_of_ble_eq_true rfl, Nat.le_of_ble_eq_true rfl⟩) (pV hK (rt_P hP1) (rt_D hD1) hk (q0 := 0) (wx_h (o := o) rfl) rfl) rfl rfl hl.1 rfl (lv_room (Nat.le_of_ble_eq_true rfl)) dL_law_470 ⟨show _ ≤ 600000 by omega, show _ ≤ 7302250 by omega⟩) hP1 hD1 hS hA (fun r u H locs hw hP hD hS => ?_)
  have hP := va_P_perm (List.perm_append_comm (l₁ := WM cy y bd mm) (l₂ := WX cy x u.2 u.1)) hP
  have hD := va_D_perm (List.perm_append_comm (l₁ := WM cy y bd mm) (l₂ := WX cy x u.2 u.1)) hD
  refine lv_aload_n hx hb dL_law_473 rfl (lv_at hl 1 rfl) ?_
  refine ld_s hx hb hl hX hbl hbA hS hi hL (n := 1) (by decide) rfl dL_law_474 dL_law_475 dL_law_476 dL_law_477 dL_law_478 ?_
  refine ld_s hx hb hl hX hbl hbA hS hi hL (n := 2) (by decide) rfl dL_law_479 dL_law_480 dL_law_481 dL_law_482 dL_law_483 ?_
  refine lv_i2l (v := (xs (i + 2)).toInt64) hx hb dL_law_484 rfl ?_
  refine lv_bipush (v := (32 : Int32)) hx hb dL_law_485 (by decide) ?_
  refine lv_lshl (v := ((xs (i + 2)).toInt64 <<< ((32 : Int32).toInt64 &&& 63))) hx hb dL_law_487 rfl ?_
  refine ld_s hx hb hl hX hbl hbA hS hi hL (n := 3) (by decide) rfl dL_law_488 dL_law_489 dL_law_490 dL_law_491 dL_law_492 ?_
  refine lv_i2l (v := (xs (i + 3)).toInt64) hx hb dL_law_493 rfl ?_
  refine lv_ldc2 (v := (4294967295 : Int64)) hx hb hown (hts (.constantLong RL 13 4294967295) mL_13) dL_law_494 ?_
  refine lv_land hx hb dL_law_497 ?_
  refine lv_lor hx hb dL_law_498 ?_
  refine cl_gi (wr := WX cy x u.2 u.1) (wc := WM cy y bd mm) (va_runV (As := [.int (xs (i + 1)), .long (lw (xs (i + 2)) (xs (i + 3)))]) (rest := [.int r]) ⟨hx, hb, hml, hown, hts⟩ (qX8_drive l dC dI cy y bd H.size mm (xs (i + 1)) (lw (xs (i + 2)) (xs (i + 3))) s2) (cwV 2 hts gL_law_X8_drive rfl rfl rfl (by decide +kernel) ⟨Nat.le_of_ble_eq_true rfl, Nat.le_of_ble_eq_true rfl⟩) (pV hK (rt_P hP) (rt_D hD) hk (q0 := 0) rfl rfl) rfl rfl hl.1 rfl (lv_room (Nat.le_of_ble_eq_true rfl)) dL_law_499 ⟨show _ ≤ 600000 by omega, show _ ≤ 7302250 by omega⟩) hP hD hS hA (fun r2 u2 H locs hw2 hP hD hS => ?_)
  have er : r = r2 := (congrArg Prod.fst hw).trans (e1.trans (congrArg Prod.fst hw2).symm)
  have eu : u.1 = _ := congrArg Prod.snd hw
  have ev : u2 = _ := congrArg Prod.snd hw2
  rw [← eu, ← ev] at e2
  refine lv_icmp_eq (tgt := 1424) hx hb dL_law_502 (by decide) (fun cq => ?_) (fun cq => absurd er cq)
  refine W.widen (k := cs + 1) (n := sl + 4) (by omega) (by omega) ?_
  exact fin u.1 u2 u.2 H locs ⟨e2.more (by omega), hP, hD, hS⟩
set_option maxHeartbeats 4000000 in
set_option maxRecDepth 100000 in
theorem lc_fit (X : LX p s m c b L xs dC dI cy) (hi : i + 6 ≤ L) (hl : lv_has ls 4 [(3, .int (nI i)), (2, .ref y), (1, .ref x), (0, .ref b)]) (h : ST s dC dI cy x y k ad bd o mm H locs) (hk4 : k + 4 ≤ 2048) (hc : cs + 1 ≤ 600000) (hsl : sl + 4 ≤ 7302250) (fin : FN p l e s m below meth c cs sl k Q ls b x y dC dI cy bd) : W p l e room_1 s m #[Value.ref b] below meth c H locs cs sl Q (F0 m 507 ls []) := by
  obtain ⟨hx, hb, hml, hown, hts, hX, hbl, hK, hk, hL⟩ := X
  obtain ⟨h, hP, hD, hS⟩ := h
  have hA : ∀ q : Nat, s.heap.size ≤ q → (fun q : Nat => s.heap.size ≤ q) q := fun _ h => h
  have hbA : ¬ (fun q : Nat => s.heap.size ≤ q) b := Nat.not_le.mpr hbl
  obtain ⟨s1, s2, e1, e2⟩ := ok_fit h (xs (i + 1)) (xs (i + 2)) 
  refine lv_aload_n hx hb dL_law_507 rfl (lv_at hl 2 rfl) ?_
  refine ld_s hx hb hl hX hbl hbA hS hi hL (n := 1) (by decide) rfl dL_law_508 dL_law_509 dL_law_510 dL_law_511 dL_law_512 ?_
  refine ld_s hx hb hl hX hbl hbA hS hi hL (n := 2) (by decide) rfl dL_law_513 dL_law_514 dL_law_515 dL_law_516 dL_law_517 ?_
  have hP1 := va_P_perm (List.perm_append_comm (l₁ := WX cy x ad o) (l₂ := WM cy y bd mm)) hP
  have hD1 := va_D_perm (List.perm_append_comm (l₁ := WX cy x ad o) (l₂ := WM cy y bd mm)) hD
  refine cl_gi (wr := WM cy y bd mm) (wc := WX cy x ad o) (va_runV (As := [.int (xs (i + 1)), .int (xs (i + 2))]) (rest := []) ⟨hx, hb, hml, hown, hts⟩ (qX7_fit l dC dI cy x ad H.size o (xs (i + 1)) (xs (i + 2)) s1) (cwV 2 hts gL_law_X7_fit rfl rfl rfl (by decide +kernel) ⟨Nat.le_of_ble_eq_true rfl, Nat.le_of_ble_eq_true rfl⟩) (pV hK (rt_P hP1) (rt_D hD1) hk (q0 := 0) (wx_h (o := o) rfl) rfl) rfl rfl hl.1 rfl (lv_room (Nat.le_of_ble_eq_true rfl)) dL_law_518 ⟨show _ ≤ 600000 by omega, show _ ≤ 7302250 by omega⟩) hP1 hD1 hS hA (fun r u H locs hw hP hD hS => ?_)
  have hP := va_P_perm (List.perm_append_comm (l₁ := WM cy y bd mm) (l₂ := WX cy x ad u)) hP
  have hD := va_D_perm (List.perm_append_comm (l₁ := WM cy y bd mm) (l₂ := WX cy x ad u)) hD
  refine lv_aload_n hx hb dL_law_521 rfl (lv_at hl 1 rfl) ?_
  refine ld_s hx hb hl hX hbl hbA hS hi hL (n := 1) (by decide) rfl dL_law_522 dL_law_523 dL_law_524 dL_law_525 dL_law_526 ?_
  refine ld_s hx hb hl hX hbl hbA hS hi hL (n := 2) (by decide) rfl dL_law_527 dL_law_528 dL_law_529 dL_law_530 dL_law_531 ?_
  refine cl_gi (wr := WX cy x ad u) (wc := WM cy y bd mm) (va_runV (As := [.int (xs (i + 1)), .int (xs (i + 2))]) (rest := [.int r]) ⟨hx, hb, hml, hown, hts⟩ (qX8_fit l dC dI cy y bd H.size mm (xs (i + 1)) (xs (i + 2)) s2) (cwV 2 hts gL_law_X8_fit rfl rfl rfl (by decide +kernel) ⟨Nat.le_of_ble_eq_true rfl, Nat.le_of_ble_eq_true rfl⟩) (pV hK (rt_P hP) (rt_D hD) hk (q0 := 0) rfl rfl) rfl rfl hl.1 rfl (lv_room (Nat.le_of_ble_eq_true rfl)) dL_law_532 ⟨show _ ≤ 600000 by omega, show _ ≤ 7302250 by omega⟩) hP hD hS hA (fun r2 u2 H locs hw2 hP hD hS => ?_)
  have er : r = r2 := (congrArg Prod.fst hw).trans (e1.trans (congrArg Prod.fst hw2).symm)
  have eu : u = _ := congrArg Prod.snd hw
  have ev : u2 = _ := congrArg Prod.snd hw2
  rw [← eu, ← ev] at e2
  refine lv_icmp_eq (tgt := 1424) hx hb dL_law_535 (by decide) (fun cq => ?_) (fun cq => absurd er cq)
  refine W.widen (k := cs + 1) (n := sl + 4) (by omega) (by omega) ?_
  exact fin u u2 ad H locs ⟨e2.more (by omega), hP, hD, hS⟩
set_option maxHeartbeats 4000000 in
set_option maxRecDepth 100000 in
theorem lc_pull (X : LX p s m c b L xs dC dI cy) (hi : i + 6 ≤ L) (hl : lv_has ls 4 [(3, .int (nI i)), (2, .ref y), (1, .ref x), (0, .ref b)]) (h : ST s dC dI cy x y k ad bd o mm H locs) (hk4 : k + 4 ≤ 2048) (hc : cs + 1 ≤ 600000) (hsl : sl + 4 ≤ 7302250) (fin : FN p l e s m below meth c cs sl k Q ls b x y dC dI cy bd) : W p l e room_1 s m #[Value.ref b] below meth c H locs cs sl Q (F0 m 540 ls []) := by
  obtain ⟨hx, hb, hml, hown, hts, hX, hbl, hK, hk, hL⟩ := X
  obtain ⟨h, hP, hD, hS⟩ := h
  have hA : ∀ q : Nat, s.heap.size ≤ q → (fun q : Nat => s.heap.size ≤ q) q := fun _ h => h
  have hbA : ¬ (fun q : Nat => s.heap.size ≤ q) b := Nat.not_le.mpr hbl
  obtain ⟨s1, s2, e1, e2⟩ := ok_pull h (by omega) (xs (i + 1)) (xs (i + 2)) 
  refine lv_aload_n hx hb dL_law_540 rfl (lv_at hl 2 rfl) ?_
  refine ld_s hx hb hl hX hbl hbA hS hi hL (n := 1) (by decide) rfl dL_law_541 dL_law_542 dL_law_543 dL_law_544 dL_law_545 ?_
  refine ld_s hx hb hl hX hbl hbA hS hi hL (n := 2) (by decide) rfl dL_law_546 dL_law_547 dL_law_548 dL_law_549 dL_law_550 ?_
  have hP1 := va_P_perm (List.perm_append_comm (l₁ := WX cy x ad o) (l₂ := WM cy y bd mm)) hP
  have hD1 := va_D_perm (List.perm_append_comm (l₁ := WX cy x ad o) (l₂ := WM cy y bd mm)) hD
  refine cl_gi (wr := WM cy y bd mm) (wc := WX cy x ad o) (va_runV (As := [.int (xs (i + 1)), .int (xs (i + 2))]) (rest := []) ⟨hx, hb, hml, hown, hts⟩ (qX7_pull l dC dI cy x ad H.size o (xs (i + 1)) (xs (i + 2)) s1) (cwV 2 hts gL_law_X7_pull rfl rfl rfl (by decide +kernel) ⟨Nat.le_of_ble_eq_true rfl, Nat.le_of_ble_eq_true rfl⟩) (pV hK (rt_P hP1) (rt_D hD1) hk (q0 := 0) (wx_h (o := o) rfl) rfl) rfl rfl hl.1 rfl (lv_room (Nat.le_of_ble_eq_true rfl)) dL_law_551 ⟨show _ ≤ 600000 by omega, show _ ≤ 7302250 by omega⟩) hP1 hD1 hS hA (fun r u H locs hw hP hD hS => ?_)
  have hP := va_P_perm (List.perm_append_comm (l₁ := WM cy y bd mm) (l₂ := WX cy x ad u)) hP
  have hD := va_D_perm (List.perm_append_comm (l₁ := WM cy y bd mm) (l₂ := WX cy x ad u)) hD
  refine lv_aload_n hx hb dL_law_554 rfl (lv_at hl 1 rfl) ?_
  refine ld_s hx hb hl hX hbl hbA hS hi hL (n := 1) (by decide) rfl dL_law_555 dL_law_556 dL_law_557 dL_law_558 dL_law_559 ?_
  refine ld_s hx hb hl hX hbl hbA hS hi hL (n := 2) (by decide) rfl dL_law_560 dL_law_561 dL_law_562 dL_law_563 dL_law_564 ?_
  refine cl_gi (wr := WX cy x ad u) (wc := WM cy y bd mm) (va_runV (As := [.int (xs (i + 1)), .int (xs (i + 2))]) (rest := [.int r]) ⟨hx, hb, hml, hown, hts⟩ (qX8_pull l dC dI cy y bd H.size mm (xs (i + 1)) (xs (i + 2)) s2) (cwV 2 hts gL_law_X8_pull rfl rfl rfl (by decide +kernel) ⟨Nat.le_of_ble_eq_true rfl, Nat.le_of_ble_eq_true rfl⟩) (pV hK (rt_P hP) (rt_D hD) hk (q0 := 0) rfl rfl) rfl rfl hl.1 rfl (lv_room (Nat.le_of_ble_eq_true rfl)) dL_law_565 ⟨show _ ≤ 600000 by omega, show _ ≤ 7302250 by omega⟩) hP hD hS hA (fun r2 u2 H locs hw2 hP hD hS => ?_)
  have er : r = r2 := (congrArg Prod.fst hw).trans (e1.trans (congrArg Prod.fst hw2).symm)
  have eu : u = _ := congrArg Prod.snd hw
  have ev : u2 = _ := congrArg Prod.snd hw2
  rw [← eu, ← ev] at e2
  refine lv_icmp_eq (tgt := 1424) hx hb dL_law_568 (by decide) (fun cq => ?_) (fun cq => absurd er cq)
  refine W.widen (k := cs + 1) (n := sl + 4) (by omega) (by omega) ?_
  exact fin u u2 ad H locs ⟨e2.more (by omega), hP, hD, hS⟩
set_option maxHeartbeats 4000000 in
set_option maxRecDepth 100000 in
theorem lc_gear (X : LX p s m c b L xs dC dI cy) (hi : i + 6 ≤ L) (hl : lv_has ls 4 [(3, .int (nI i)), (2, .ref y), (1, .ref x), (0, .ref b)]) (h : ST s dC dI cy x y k ad bd o mm H locs) (hk4 : k + 4 ≤ 2048) (hc : cs + 1 ≤ 600000) (hsl : sl + 4 ≤ 7302250) (fin : FN p l e s m below meth c cs sl k Q ls b x y dC dI cy bd) : W p l e room_1 s m #[Value.ref b] below meth c H locs cs sl Q (F0 m 573 ls []) := by
  obtain ⟨hx, hb, hml, hown, hts, hX, hbl, hK, hk, hL⟩ := X
  obtain ⟨h, hP, hD, hS⟩ := h
  have hA : ∀ q : Nat, s.heap.size ≤ q → (fun q : Nat => s.heap.size ≤ q) q := fun _ h => h
  have hbA : ¬ (fun q : Nat => s.heap.size ≤ q) b := Nat.not_le.mpr hbl
  obtain ⟨s1, s2, e1, e2⟩ := ok_gear h (xs (i + 1)) (xs (i + 2)) 
  refine lv_aload_n hx hb dL_law_573 rfl (lv_at hl 2 rfl) ?_
  refine ld_s hx hb hl hX hbl hbA hS hi hL (n := 1) (by decide) rfl dL_law_574 dL_law_575 dL_law_576 dL_law_577 dL_law_578 ?_
  refine ld_s hx hb hl hX hbl hbA hS hi hL (n := 2) (by decide) rfl dL_law_579 dL_law_580 dL_law_581 dL_law_582 dL_law_583 ?_
  have hP1 := va_P_perm (List.perm_append_comm (l₁ := WX cy x ad o) (l₂ := WM cy y bd mm)) hP
  have hD1 := va_D_perm (List.perm_append_comm (l₁ := WX cy x ad o) (l₂ := WM cy y bd mm)) hD
  refine cl_gi (wr := WM cy y bd mm) (wc := WX cy x ad o) (va_runV (As := [.int (xs (i + 1)), .int (xs (i + 2))]) (rest := []) ⟨hx, hb, hml, hown, hts⟩ (qX7_gear l dC dI cy x ad H.size o (xs (i + 1)) (xs (i + 2)) s1) (cwV 2 hts gL_law_X7_gear rfl rfl rfl (by decide +kernel) ⟨Nat.le_of_ble_eq_true rfl, Nat.le_of_ble_eq_true rfl⟩) (pV hK (rt_P hP1) (rt_D hD1) hk (q0 := 0) (wx_h (o := o) rfl) rfl) rfl rfl hl.1 rfl (lv_room (Nat.le_of_ble_eq_true rfl)) dL_law_584 ⟨show _ ≤ 600000 by omega, show _ ≤ 7302250 by omega⟩) hP1 hD1 hS hA (fun r u H locs hw hP hD hS => ?_)
  have hP := va_P_perm (List.perm_append_comm (l₁ := WM cy y bd mm) (l₂ := WX cy x ad u)) hP
  have hD := va_D_perm (List.perm_append_comm (l₁ := WM cy y bd mm) (l₂ := WX cy x ad u)) hD
  refine lv_aload_n hx hb dL_law_587 rfl (lv_at hl 1 rfl) ?_
  refine ld_s hx hb hl hX hbl hbA hS hi hL (n := 1) (by decide) rfl dL_law_588 dL_law_589 dL_law_590 dL_law_591 dL_law_592 ?_
  refine ld_s hx hb hl hX hbl hbA hS hi hL (n := 2) (by decide) rfl dL_law_593 dL_law_594 dL_law_595 dL_law_596 dL_law_597 ?_
  refine cl_gi (wr := WX cy x ad u) (wc := WM cy y bd mm) (va_runV (As := [.int (xs (i + 1)), .int (xs (i + 2))]) (rest := [.int r]) ⟨hx, hb, hml, hown, hts⟩ (qX8_gear l dC dI cy y bd H.size mm (xs (i + 1)) (xs (i + 2)) s2) (cwV 2 hts gL_law_X8_gear rfl rfl rfl (by decide +kernel) ⟨Nat.le_of_ble_eq_true rfl, Nat.le_of_ble_eq_true rfl⟩) (pV hK (rt_P hP) (rt_D hD) hk (q0 := 0) rfl rfl) rfl rfl hl.1 rfl (lv_room (Nat.le_of_ble_eq_true rfl)) dL_law_598 ⟨show _ ≤ 600000 by omega, show _ ≤ 7302250 by omega⟩) hP hD hS hA (fun r2 u2 H locs hw2 hP hD hS => ?_)
  have er : r = r2 := (congrArg Prod.fst hw).trans (e1.trans (congrArg Prod.fst hw2).symm)
  have eu : u = _ := congrArg Prod.snd hw
  have ev : u2 = _ := congrArg Prod.snd hw2
  rw [← eu, ← ev] at e2
  refine lv_icmp_eq (tgt := 1424) hx hb dL_law_601 (by decide) (fun cq => ?_) (fun cq => absurd er cq)
  refine W.widen (k := cs + 1) (n := sl + 4) (by omega) (by omega) ?_
  exact fin u u2 ad H locs ⟨e2.more (by omega), hP, hD, hS⟩
set_option maxHeartbeats 4000000 in
set_option maxRecDepth 100000 in
theorem lc_lay (X : LX p s m c b L xs dC dI cy) (hi : i + 6 ≤ L) (hl : lv_has ls 4 [(3, .int (nI i)), (2, .ref y), (1, .ref x), (0, .ref b)]) (h : ST s dC dI cy x y k ad bd o mm H locs) (hk4 : k + 4 ≤ 2048) (hc : cs + 1 ≤ 600000) (hsl : sl + 4 ≤ 7302250) (fin : FN p l e s m below meth c cs sl k Q ls b x y dC dI cy bd) : W p l e room_1 s m #[Value.ref b] below meth c H locs cs sl Q (F0 m 606 ls []) := by
  obtain ⟨hx, hb, hml, hown, hts, hX, hbl, hK, hk, hL⟩ := X
  obtain ⟨h, hP, hD, hS⟩ := h
  have hA : ∀ q : Nat, s.heap.size ≤ q → (fun q : Nat => s.heap.size ≤ q) q := fun _ h => h
  have hbA : ¬ (fun q : Nat => s.heap.size ≤ q) b := Nat.not_le.mpr hbl
  obtain ⟨s1, s2, e1, e2⟩ := ok_lay h (xs (i + 1)) (xs (i + 2)) (xs (i + 3)) 
  refine lv_aload_n hx hb dL_law_606 rfl (lv_at hl 2 rfl) ?_
  refine ld_s hx hb hl hX hbl hbA hS hi hL (n := 1) (by decide) rfl dL_law_607 dL_law_608 dL_law_609 dL_law_610 dL_law_611 ?_
  refine ld_s hx hb hl hX hbl hbA hS hi hL (n := 2) (by decide) rfl dL_law_612 dL_law_613 dL_law_614 dL_law_615 dL_law_616 ?_
  refine ld_s hx hb hl hX hbl hbA hS hi hL (n := 3) (by decide) rfl dL_law_617 dL_law_618 dL_law_619 dL_law_620 dL_law_621 ?_
  have hP1 := va_P_perm (List.perm_append_comm (l₁ := WX cy x ad o) (l₂ := WM cy y bd mm)) hP
  have hD1 := va_D_perm (List.perm_append_comm (l₁ := WX cy x ad o) (l₂ := WM cy y bd mm)) hD
  refine cl_gi (wr := WM cy y bd mm) (wc := WX cy x ad o) (va_runV (As := [.int (xs (i + 1)), .int (xs (i + 2)), .int (xs (i + 3))]) (rest := []) ⟨hx, hb, hml, hown, hts⟩ (qX7_lay l dC dI cy x ad H.size o (xs (i + 1)) (xs (i + 2)) (xs (i + 3)) s1) (cwV 3 hts gL_law_X7_lay rfl rfl rfl (by decide +kernel) ⟨Nat.le_of_ble_eq_true rfl, Nat.le_of_ble_eq_true rfl⟩) (pV hK (rt_P hP1) (rt_D hD1) hk (q0 := 0) (wx_h (o := o) rfl) rfl) rfl rfl hl.1 rfl (lv_room (Nat.le_of_ble_eq_true rfl)) dL_law_622 ⟨show _ ≤ 600000 by omega, show _ ≤ 7302250 by omega⟩) hP1 hD1 hS hA (fun r u H locs hw hP hD hS => ?_)
  have hP := va_P_perm (List.perm_append_comm (l₁ := WM cy y bd mm) (l₂ := WX cy x ad u)) hP
  have hD := va_D_perm (List.perm_append_comm (l₁ := WM cy y bd mm) (l₂ := WX cy x ad u)) hD
  refine lv_aload_n hx hb dL_law_625 rfl (lv_at hl 1 rfl) ?_
  refine ld_s hx hb hl hX hbl hbA hS hi hL (n := 1) (by decide) rfl dL_law_626 dL_law_627 dL_law_628 dL_law_629 dL_law_630 ?_
  refine ld_s hx hb hl hX hbl hbA hS hi hL (n := 2) (by decide) rfl dL_law_631 dL_law_632 dL_law_633 dL_law_634 dL_law_635 ?_
  refine ld_s hx hb hl hX hbl hbA hS hi hL (n := 3) (by decide) rfl dL_law_636 dL_law_637 dL_law_638 dL_law_639 dL_law_640 ?_
  refine cl_gi (wr := WX cy x ad u) (wc := WM cy y bd mm) (va_runV (As := [.int (xs (i + 1)), .int (xs (i + 2)), .int (xs (i + 3))]) (rest := [.int r]) ⟨hx, hb, hml, hown, hts⟩ (qX8_lay l dC dI cy y bd H.size mm (xs (i + 1)) (xs (i + 2)) (xs (i + 3)) s2) (cwV 3 hts gL_law_X8_lay rfl rfl rfl (by decide +kernel) ⟨Nat.le_of_ble_eq_true rfl, Nat.le_of_ble_eq_true rfl⟩) (pV hK (rt_P hP) (rt_D hD) hk (q0 := 0) rfl rfl) rfl rfl hl.1 rfl (lv_room (Nat.le_of_ble_eq_true rfl)) dL_law_641 ⟨show _ ≤ 600000 by omega, show _ ≤ 7302250 by omega⟩) hP hD hS hA (fun r2 u2 H locs hw2 hP hD hS => ?_)
  have er : r = r2 := (congrArg Prod.fst hw).trans (e1.trans (congrArg Prod.fst hw2).symm)
  have eu : u = _ := congrArg Prod.snd hw
  have ev : u2 = _ := congrArg Prod.snd hw2
  rw [← eu, ← ev] at e2
  refine lv_icmp_eq (tgt := 1424) hx hb dL_law_644 (by decide) (fun cq => ?_) (fun cq => absurd er cq)
  refine W.widen (k := cs + 1) (n := sl + 4) (by omega) (by omega) ?_
  exact fin u u2 ad H locs ⟨e2.more (by omega), hP, hD, hS⟩
set_option maxHeartbeats 4000000 in
set_option maxRecDepth 100000 in
theorem lc_wind (X : LX p s m c b L xs dC dI cy) (hi : i + 6 ≤ L) (hl : lv_has ls 4 [(3, .int (nI i)), (2, .ref y), (1, .ref x), (0, .ref b)]) (h : ST s dC dI cy x y k ad bd o mm H locs) (hk4 : k + 4 ≤ 2048) (hc : cs + 1 ≤ 600000) (hsl : sl + 4 ≤ 7302250) (fin : FN p l e s m below meth c cs sl k Q ls b x y dC dI cy bd) : W p l e room_1 s m #[Value.ref b] below meth c H locs cs sl Q (F0 m 649 ls []) := by
  obtain ⟨hx, hb, hml, hown, hts, hX, hbl, hK, hk, hL⟩ := X
  obtain ⟨h, hP, hD, hS⟩ := h
  have hA : ∀ q : Nat, s.heap.size ≤ q → (fun q : Nat => s.heap.size ≤ q) q := fun _ h => h
  have hbA : ¬ (fun q : Nat => s.heap.size ≤ q) b := Nat.not_le.mpr hbl
  obtain ⟨s1, s2, e1, e2⟩ := ok_wind h hk4 (xs (i + 1)) (xs (i + 2)) 
  refine lv_aload_n hx hb dL_law_649 rfl (lv_at hl 2 rfl) ?_
  refine ld_s hx hb hl hX hbl hbA hS hi hL (n := 1) (by decide) rfl dL_law_650 dL_law_651 dL_law_652 dL_law_653 dL_law_654 ?_
  refine ld_s hx hb hl hX hbl hbA hS hi hL (n := 2) (by decide) rfl dL_law_655 dL_law_656 dL_law_657 dL_law_658 dL_law_659 ?_
  have hP1 := va_P_perm (List.perm_append_comm (l₁ := WX cy x ad o) (l₂ := WM cy y bd mm)) hP
  have hD1 := va_D_perm (List.perm_append_comm (l₁ := WX cy x ad o) (l₂ := WM cy y bd mm)) hD
  refine cl_gi (wr := WM cy y bd mm) (wc := WX cy x ad o) (va_runV (As := [.int (xs (i + 1)), .int (xs (i + 2))]) (rest := []) ⟨hx, hb, hml, hown, hts⟩ (qX7_wind l dC dI cy x ad H.size o (xs (i + 1)) (xs (i + 2)) s1) (cwV 2 hts gL_law_X7_wind rfl rfl rfl (by decide +kernel) ⟨Nat.le_of_ble_eq_true rfl, Nat.le_of_ble_eq_true rfl⟩) (pV hK (rt_P hP1) (rt_D hD1) hk (q0 := 0) (wx_h (o := o) rfl) rfl) rfl rfl hl.1 rfl (lv_room (Nat.le_of_ble_eq_true rfl)) dL_law_660 ⟨show _ ≤ 600000 by omega, show _ ≤ 7302250 by omega⟩) hP1 hD1 hS hA (fun r u H locs hw hP hD hS => ?_)
  have hP := va_P_perm (List.perm_append_comm (l₁ := WM cy y bd mm) (l₂ := WX cy x ad u)) hP
  have hD := va_D_perm (List.perm_append_comm (l₁ := WM cy y bd mm) (l₂ := WX cy x ad u)) hD
  refine lv_aload_n hx hb dL_law_663 rfl (lv_at hl 1 rfl) ?_
  refine ld_s hx hb hl hX hbl hbA hS hi hL (n := 1) (by decide) rfl dL_law_664 dL_law_665 dL_law_666 dL_law_667 dL_law_668 ?_
  refine ld_s hx hb hl hX hbl hbA hS hi hL (n := 2) (by decide) rfl dL_law_669 dL_law_670 dL_law_671 dL_law_672 dL_law_673 ?_
  refine cl_gi (wr := WX cy x ad u) (wc := WM cy y bd mm) (va_runV (As := [.int (xs (i + 1)), .int (xs (i + 2))]) (rest := [.int r]) ⟨hx, hb, hml, hown, hts⟩ (qX8_wind l dC dI cy y bd H.size mm (xs (i + 1)) (xs (i + 2)) s2) (cwV 2 hts gL_law_X8_wind rfl rfl rfl (by decide +kernel) ⟨Nat.le_of_ble_eq_true rfl, Nat.le_of_ble_eq_true rfl⟩) (pV hK (rt_P hP) (rt_D hD) hk (q0 := 0) rfl rfl) rfl rfl hl.1 rfl (lv_room (Nat.le_of_ble_eq_true rfl)) dL_law_674 ⟨show _ ≤ 600000 by omega, show _ ≤ 7302250 by omega⟩) hP hD hS hA (fun r2 u2 H locs hw2 hP hD hS => ?_)
  have er : r = r2 := (congrArg Prod.fst hw).trans (e1.trans (congrArg Prod.fst hw2).symm)
  have eu : u = _ := congrArg Prod.snd hw
  have ev : u2 = _ := congrArg Prod.snd hw2
  rw [← eu, ← ev] at e2
  refine lv_icmp_eq (tgt := 1424) hx hb dL_law_677 (by decide) (fun cq => ?_) (fun cq => absurd er cq)
  refine W.widen (k := cs + 1) (n := sl + 4) (by omega) (by omega) ?_
  exact fin u u2 ad H locs ⟨e2.more (by omega), hP, hD, hS⟩
end LC
