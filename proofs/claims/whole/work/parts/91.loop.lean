theorem nI_m6 {L : Nat} (h : L ≤ 3072) : (Int32.ofNat L - (6 : Int32)).toInt = (L : Int) - 6 := by
  by_cases h6 : 6 ≤ L
  · have e : Int32.ofNat L = nI (L - 6) + (6 : Int32) := by
      rw [show (6 : Int32) = nI 6 from rfl, nI_add, show L - 6 + 6 = L by omega]
      rfl
    rw [e, Int32.add_sub_cancel, nI_toInt (by omega)]
    omega
  · rcases (show L = 0 ∨ L = 1 ∨ L = 2 ∨ L = 3 ∨ L = 4 ∨ L = 5 by omega) with rfl | rfl | rfl | rfl | rfl | rfl <;> decide
/-! the law's loop -/
set_option maxHeartbeats 8000000 in
set_option maxRecDepth 100000 in
theorem law_loop {p : Program} {l : Launch} {e : Env} {s : State} {m : MethodId} {below : List Frame} {meth : Method} {c : Code} {b L x y : Nat} {xs : Nat → Int32} {dC : Nat → ClassId} {dI : Nat → Nat → Nat} {cy : Nat → ClassId} {bd : Nat → Nat} (X : LX p s m c b L xs dC dI cy) (hr : meth.sig.returnType = ret) (hlocks : meth.locks = false) :
    ∀ (n j : Nat), j ≤ 512 → 513 ≤ j + n → ∀ (ad : Nat → Nat) (o : Os) (mm : Ms) (H : Heap) (locs : List Loc) (ls : Array Slot), lv_has ls 4 [(3, .int (nI (6 * j))), (2, .ref y), (1, .ref x), (0, .ref b)] → ST s dC dI cy x y (4 * j) ad bd o mm H locs → W p l e room_1 s m #[Value.ref b] below meth c H locs (56 + j) (828 + 4 * j) (lw_Z below #[Value.ref b] s) (F0 m 18 ls []) := by
  obtain ⟨hx, hb, hml, hown, hts, hX, hbl, hK, hk, hL⟩ := id X
  have hbA : ¬ (fun q : Nat => s.heap.size ≤ q) b := Nat.not_le.mpr hbl
  intro n
  induction n with
  | zero => intro j h1 h2; omega
  | succ n ih =>
    intro j hj hn ad o mm H locs ls hl hT
    obtain ⟨h, hP, hD, hS⟩ := id hT
    refine lv_iload_n hx hb dL_law_18 rfl (lv_at hl 0 rfl) ?_
    refine lv_aload_n hx hb dL_law_19 rfl (lv_at hl 3 rfl) ?_
    refine va_slen hx hb hX hbl hbA hS dL_law_20 ?_
    refine lv_bipush (v := (6 : Int32)) hx hb dL_law_21 (by decide) ?_
    refine lv_isub hx hb dL_law_23 ?_
    have eL := nI_m6 hL
    refine lv_icmp_gt (tgt := 1430) hx hb dL_law_24 (by decide) (fun cq => ?_) (fun cq => ?_)
    · refine lv_iconst (v := (1 : Int32)) hx hb dL_law_1430 (by decide) ?_
      refine va_forget (fun q hq => hS.2.2 q hq) ?_
      refine W.widen (k := 600000) (n := 7302250) (by omega) (by omega) ?_
      exact lw_ret hx hb hr hlocks dL_law_1431
    · have hi : 6 * j + 6 ≤ L := by
        have := fun q : (L : Int) - 6 < ((6 * j : Nat) : Int) => cq (Int32.lt_iff_toInt_lt.mpr (by rw [eL, nI_toInt (by omega)]; exact q))
        rcases Int.lt_or_le ((L : Int) - 6) ((6 * j : Nat) : Int) with q | q
        · exact (this q).elim
        · omega
      have hF : FN p l e s m below meth c (56 + j) (828 + 4 * j) (4 * j) (lw_Z below #[Value.ref b] s) ls b x y dC dI cy bd := by
        intro o' m' ad' H' locs' hT'
        refine lv_iinc (v := nI (6 * (j + 1))) (lv' := [(3, .int (nI (6 * (j + 1)))), (2, .ref y), (1, .ref x), (0, .ref b)]) hx hb dL_law_1424 hl (k := 0) rfl (show nI (6 * j) + nI 6 = nI (6 * (j + 1)) by rw [nI_add, show 6 * j + 6 = 6 * (j + 1) by omega]) (by decide) rfl (fun ls hl => ?_)
        refine lv_goto (tgt := 18) hx hb dL_law_1427 (by decide) ?_
        refine W.cs (cells' := 56 + (j + 1)) (slots' := 828 + 4 * (j + 1)) (by omega) (by omega) ?_
        have hT2 : ST s dC dI cy x y (4 * (j + 1)) ad' bd o' m' H' locs' := by
          rw [show 4 * (j + 1) = 4 * j + 4 by omega]
          exact hT'
        exact ih (j + 1) (by omega) (by omega) ad' o' m' H' locs' ls hl hT2
      refine lv_aload_n hx hb dL_law_27 rfl (lv_at hl 3 rfl) ?_
      refine lv_iload_n hx hb dL_law_28 rfl (lv_at hl 0 rfl) ?_
      refine va_sld hx hb hX hbl hbA hS (show vp_in (nI (6 * j)) L from nI_in (by omega) (by omega)) dL_law_29 ?_
      refine lv_bipush (v := (31 : Int32)) hx hb dL_law_30 (by decide) ?_
      refine lv_iand hx hb dL_law_32 ?_
      generalize xs (nI (6 * j)).toNatClampNeg &&& (31 : Int32) = w
      rcases (show w.toInt < 0 ∨ 24 < w.toInt ∨ w.toInt = 0 ∨ w.toInt = 1 ∨ w.toInt = 2 ∨ w.toInt = 3 ∨ w.toInt = 4 ∨ w.toInt = 5 ∨ w.toInt = 6 ∨ w.toInt = 7 ∨ w.toInt = 8 ∨ w.toInt = 9 ∨ w.toInt = 10 ∨ w.toInt = 11 ∨ w.toInt = 12 ∨ w.toInt = 13 ∨ w.toInt = 14 ∨ w.toInt = 15 ∨ w.toInt = 16 ∨ w.toInt = 17 ∨ w.toInt = 18 ∨ w.toInt = 19 ∨ w.toInt = 20 ∨ w.toInt = 21 ∨ w.toInt = 22 ∨ w.toInt = 23 ∨ w.toInt = 24 by omega) with q | q | q | q | q | q | q | q | q | q | q | q | q | q | q | q | q | q | q | q | q | q | q | q | q | q | q
      · refine lv_tableOut (tgt := 1424) hx hb dL_law_33 (Or.inl q) (by decide) ?_
        refine W.widen (k := 56 + j + 1) (n := 828 + 4 * j + 4) (by omega) (by omega) ?_
        exact hF o mm ad H locs ⟨h.more (by omega), hP, hD, hS⟩
      · refine lv_tableOut (tgt := 1424) hx hb dL_law_33 (Or.inr q) (by decide) ?_
        refine W.widen (k := 56 + j + 1) (n := 828 + 4 * j + 4) (by omega) (by omega) ?_
        exact hF o mm ad H locs ⟨h.more (by omega), hP, hD, hS⟩
      · refine lv_tableIn (off := 115) (tgt := 148) hx hb dL_law_33 (by omega) (by omega) (by rw [q]; rfl) (by decide) ?_
        exact lc_dial X hi hl hT (by omega) (by omega) (by omega) hF
      · refine lv_tableIn (off := 194) (tgt := 227) hx hb dL_law_33 (by omega) (by omega) (by rw [q]; rfl) (by decide) ?_
        exact lc_turn X hi hl hT (by omega) (by omega) (by omega) hF
      · refine lv_tableIn (off := 257) (tgt := 290) hx hb dL_law_33 (by omega) (by omega) (by rw [q]; rfl) (by decide) ?_
        exact lc_spin X hi hl hT (by omega) (by omega) (by omega) hF
      · refine lv_tableIn (off := 330) (tgt := 363) hx hb dL_law_33 (by omega) (by omega) (by rw [q]; rfl) (by decide) ?_
        exact lc_place X hi hl hT (by omega) (by omega) (by omega) hF
      · refine lv_tableIn (off := 364) (tgt := 397) hx hb dL_law_33 (by omega) (by omega) (by rw [q]; rfl) (by decide) ?_
        exact lc_laps X hi hl hT (by omega) (by omega) (by omega) hF
      · refine lv_tableIn (off := 388) (tgt := 421) hx hb dL_law_33 (by omega) (by omega) (by rw [q]; rfl) (by decide) ?_
        exact lc_fine X hi hl hT (by omega) (by omega) (by omega) hF
      · refine lv_tableIn (off := 411) (tgt := 444) hx hb dL_law_33 (by omega) (by omega) (by rw [q]; rfl) (by decide) ?_
        exact lc_drive X hi hl hT (by omega) (by omega) (by omega) hF
      · refine lv_tableIn (off := 474) (tgt := 507) hx hb dL_law_33 (by omega) (by omega) (by rw [q]; rfl) (by decide) ?_
        exact lc_fit X hi hl hT (by omega) (by omega) (by omega) hF
      · refine lv_tableIn (off := 507) (tgt := 540) hx hb dL_law_33 (by omega) (by omega) (by rw [q]; rfl) (by decide) ?_
        exact lc_pull X hi hl hT (by omega) (by omega) (by omega) hF
      · refine lv_tableIn (off := 540) (tgt := 573) hx hb dL_law_33 (by omega) (by omega) (by rw [q]; rfl) (by decide) ?_
        exact lc_gear X hi hl hT (by omega) (by omega) (by omega) hF
      · refine lv_tableIn (off := 573) (tgt := 606) hx hb dL_law_33 (by omega) (by omega) (by rw [q]; rfl) (by decide) ?_
        exact lc_lay X hi hl hT (by omega) (by omega) (by omega) hF
      · refine lv_tableIn (off := 616) (tgt := 649) hx hb dL_law_33 (by omega) (by omega) (by rw [q]; rfl) (by decide) ?_
        exact lc_wind X hi hl hT (by omega) (by omega) (by omega) hF
      · refine lv_tableIn (off := 649) (tgt := 682) hx hb dL_law_33 (by omega) (by omega) (by rw [q]; rfl) (by decide) ?_
        exact lc_laid X hi hl hT (by omega) (by omega) (by omega) hF
      · refine lv_tableIn (off := 682) (tgt := 715) hx hb dL_law_33 (by omega) (by omega) (by rw [q]; rfl) (by decide) ?_
        exact lc_pulls X hi hl hT (by omega) (by omega) (by omega) hF
      · refine lv_tableIn (off := 705) (tgt := 738) hx hb dL_law_33 (by omega) (by omega) (by rw [q]; rfl) (by decide) ?_
        exact lc_log X hi hl hT (by omega) (by omega) (by omega) hF
      · refine lv_tableIn (off := 764) (tgt := 797) hx hb dL_law_33 (by omega) (by omega) (by rw [q]; rfl) (by decide) ?_
        exact lc_write X hi hl hT (by omega) (by omega) (by omega) hF
      · refine lv_tableIn (off := 863) (tgt := 896) hx hb dL_law_33 (by omega) (by omega) (by rw [q]; rfl) (by decide) ?_
        exact lc_read X hi hl hT (by omega) (by omega) (by omega) hF
      · refine lv_tableIn (off := 922) (tgt := 955) hx hb dL_law_33 (by omega) (by omega) (by rw [q]; rfl) (by decide) ?_
        exact lc_seen X hi hl hT (by omega) (by omega) (by omega) hF
      · refine lv_tableIn (off := 936) (tgt := 969) hx hb dL_law_33 (by omega) (by omega) (by rw [q]; rfl) (by decide) ?_
        exact lc_note X hi hl hT (by omega) (by omega) (by omega) hF
      · refine lv_tableIn (off := 1005) (tgt := 1038) hx hb dL_law_33 (by omega) (by omega) (by rw [q]; rfl) (by decide) ?_
        exact lc_recall X hi hl hT (by omega) (by omega) (by omega) hF
      · refine lv_tableIn (off := 1074) (tgt := 1107) hx hb dL_law_33 (by omega) (by omega) (by rw [q]; rfl) (by decide) ?_
        exact lc_sift X hi hl hT (by omega) (by omega) (by omega) hF
      · refine lv_tableIn (off := 1163) (tgt := 1196) hx hb dL_law_33 (by omega) (by omega) (by rw [q]; rfl) (by decide) ?_
        exact lc_cast X hi hl hT (by omega) (by omega) (by omega) hF
      · refine lv_tableIn (off := 1236) (tgt := 1269) hx hb dL_law_33 (by omega) (by omega) (by rw [q]; rfl) (by decide) ?_
        exact lc_left X hi hl hT (by omega) (by omega) (by omega) hF
      · refine lv_tableIn (off := 1355) (tgt := 1388) hx hb dL_law_33 (by omega) (by omega) (by rw [q]; rfl) (by decide) ?_
        exact lc_failed X hi hl hT (by omega) (by omega) (by omega) hF
      · refine lv_tableIn (off := 1368) (tgt := 1401) hx hb dL_law_33 (by omega) (by omega) (by rw [q]; rfl) (by decide) ?_
        exact lc_about X hi hl hT (by omega) (by omega) (by omega) hF
set_option maxHeartbeats 8000000 in
set_option maxRecDepth 100000 in
/-- from the entry, for every script of at most 3072 ints, the law comes to its end with true -/
theorem whole_start {p : Program} {e : Env} {s : State} {m : MethodId} {below : List Frame} {meth : Method} {c : Code} (l : Launch) {b L : Nat} {xs : Nat → Int32} (hL : L ≤ 3072) (C0 : lw_At p s m meth c b L xs) : W p l e room_1 s m #[Value.ref b] below meth c s.heap [] 0 0 (lw_Z below #[Value.ref b] s) (entryFrame m ([Value.ref b] : List Value).toArray 4) := by
  obtain ⟨hx, hb, hr, hml, hown, hts0, hX, hbl, hlocks, hgv⟩ := C0
  have hb : c.code = cL_law := hb
  have hown : s.vm.findClass RL = some m.cls := hown
  have hts : ∀ w ∈ wsL_law, w.before #[Value.ref b] s = true := fun w hw => hts0 w (wsL_law_in w hw)
  have hA : ∀ q : Nat, s.heap.size ≤ q → (fun q : Nat => s.heap.size ≤ q) q := fun _ h => h
  have hk := kx_of hts0 hgv
  obtain ⟨cy, hcy⟩ := ty_of hts0
  obtain ⟨dC, dI, hKc⟩ := cl_of hts0
  have hK : va_K (dC, dI) vwCl (tyA cy) s := ⟨hKc, hcy⟩
  have X : LX p s m c b L xs dC dI cy := ⟨hx, hb, hml, hown, hts, hX, hbl, hK, hk, hL⟩
  have hS : va_S (fun q : Nat => s.heap.size ≤ q) s.heap s.heap [] := va_S.rf
  have hP : va_P (dC, dI) vwCl [] s.heap := em_P
  have hD : va_D (fun q : Nat => s.heap.size ≤ q) [] := em_D
  have hl := lv_entry ([.ref b]) (n := 4) (Nat.le_of_ble_eq_true rfl)
  rw [lg_entry_eq]
  generalize (lg_sl ([.ref b]) ++ List.replicate (4 - (lg_sl ([.ref b])).length) Slot.unset).toArray = ls at hl ⊢
  have hl : lv_has ls 4 [(0, .ref b)] := hl
  refine va_new (D := (dC, dI)) (ci := 5) (fs := [.null, .int 0, .null, .int 0, .null, .null, .null, .long 0, .int 0, .null]) (C := RX7) (T := TX7) (N := 10) hx hb hts inlX7 tyX7 tyX7_ok hown (hts (.classLink RL 7 RX7) (by decide +kernel)) (hts (.instantiable RX7 10) (by decide +kernel)) (hts (.initialized RX7) (by decide +kernel)) hK hP hD hS hA rfl (fun j hj => by rcases (show j = 0 ∨ j = 1 ∨ j = 2 ∨ j = 3 ∨ j = 4 ∨ j = 5 ∨ j = 6 ∨ j = 7 ∨ j = 8 ∨ j = 9 by omega) with rfl | rfl | rfl | rfl | rfl | rfl | rfl | rfl | rfl | rfl <;> rfl) (Nat.le_of_ble_eq_true rfl) (Nat.le_of_ble_eq_true rfl) dL_law_0 (fun x H hP hD hS => ?_)
  refine lv_dup hx hb dL_law_3 rfl ?_
  refine cl_gv (wr := []) (wc := [(x, .inr (5, [.null, .int 0, .null, .int 0, .null, .null, .null, .long 0, .int 0, .null]))]) (va_runI (As := []) (rest := [.ref x]) ⟨hx, hb, hml, hown, hts⟩ (qX7_init l dC dI cy x H.size) (cwI 0 hts gL_law_X7_init rfl rfl rfl (hts (.initialized RX7) (by decide +kernel)) (hts (.methodLink RL 9 yX7_init) (by decide +kernel)) (hts (.instanceMethod yX7_init) (by decide +kernel)) rfl (by decide +kernel) ⟨Nat.le_of_ble_eq_true rfl, Nat.le_of_ble_eq_true rfl⟩) (pS hK (tl_P hP) (tl_D hD) hk) rfl rfl hl.1 rfl (lv_room (Nat.le_of_ble_eq_true rfl)) dL_law_4 ⟨Nat.le_of_ble_eq_true rfl, Nat.le_of_ble_eq_true rfl⟩) hP hD hS hA (fun ad H locs _ hP hD hS => ?_)
  have hP : va_P (dC, dI) vwCl (WX cy x ad o_new) H := hP
  have hD : va_D (fun q : Nat => s.heap.size ≤ q) (WX cy x ad o_new) := hD
  refine lv_astore_n (lv' := [(1, .ref x), (0, .ref b)]) hx hb dL_law_7 rfl hl (by decide) rfl (fun ls hl => ?_)
  refine va_new (D := (dC, dI)) (ci := 6) (fs := [.int 0, .null, .null, .null, .null, .null, .null, .int 0, .null, .null, .null, .null, .null, .null, .null, .null, .null, .long 0, .int 0, .null]) (C := RX8) (T := TX8) (N := 20) hx hb hts inlX8 tyX8 tyX8_ok hown (hts (.classLink RL 10 RX8) (by decide +kernel)) (hts (.instantiable RX8 20) (by decide +kernel)) (hts (.initialized RX8) (by decide +kernel)) hK hP hD hS hA rfl (fun j hj => by rcases (show j = 0 ∨ j = 1 ∨ j = 2 ∨ j = 3 ∨ j = 4 ∨ j = 5 ∨ j = 6 ∨ j = 7 ∨ j = 8 ∨ j = 9 ∨ j = 10 ∨ j = 11 ∨ j = 12 ∨ j = 13 ∨ j = 14 ∨ j = 15 ∨ j = 16 ∨ j = 17 ∨ j = 18 ∨ j = 19 by omega) with rfl | rfl | rfl | rfl | rfl | rfl | rfl | rfl | rfl | rfl | rfl | rfl | rfl | rfl | rfl | rfl | rfl | rfl | rfl | rfl <;> rfl) (Nat.le_of_ble_eq_true rfl) (Nat.le_of_ble_eq_true rfl) dL_law_8 (fun y H hP hD hS => ?_)
  refine lv_dup hx hb dL_law_11 rfl ?_
  refine cl_gv (wr := WX cy x ad o_new) (wc := [(y, .inr (6, [.int 0, .null, .null, .null, .null, .null, .null, .int 0, .null, .null, .null, .null, .null, .null, .null, .null, .null, .long 0, .int 0, .null]))]) (va_runI (As := []) (rest := [.ref y]) ⟨hx, hb, hml, hown, hts⟩ (qX8_init l dC dI cy y H.size) (cwI 0 hts gL_law_X8_init rfl rfl rfl (hts (.initialized RX8) (by decide +kernel)) (hts (.methodLink RL 12 yX8_init) (by decide +kernel)) (hts (.instanceMethod yX8_init) (by decide +kernel)) rfl (by decide +kernel) ⟨Nat.le_of_ble_eq_true rfl, Nat.le_of_ble_eq_true rfl⟩) (pS hK (tl_P hP) (tl_D hD) hk) rfl rfl hl.1 rfl (lv_room (Nat.le_of_ble_eq_true rfl)) dL_law_12 ⟨Nat.le_of_ble_eq_true rfl, Nat.le_of_ble_eq_true rfl⟩) hP hD hS hA (fun bd H locs _ hP hD hS => ?_)
  refine lv_astore_n (lv' := [(2, .ref y), (1, .ref x), (0, .ref b)]) hx hb dL_law_15 rfl hl (by decide) rfl (fun ls hl => ?_)
  refine lv_iconst (v := (0 : Int32)) hx hb dL_law_16 (by decide) ?_
  refine lv_istore_n (lv' := [(3, .int (0 : Int32)), (2, .ref y), (1, .ref x), (0, .ref b)]) hx hb dL_law_17 rfl hl (by decide) rfl (fun ls hl => ?_)
  refine W.cs (cells' := 56 + 0) (slots' := 828 + 4 * 0) rfl rfl ?_
  exact law_loop X hr hlocks 513 0 (by omega) (by omega) ad o_new m_new H locs ls hl ⟨rl_new, hP, hD, hS⟩
