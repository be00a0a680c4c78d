/-! the law: the other calls -/
section LC2
variable {p : Program} {l : Launch} {e : Env} {s : State} {m : MethodId} {below : List Frame} {meth : Method} {c : Code} {H : Heap} {locs : List Loc} {cs sl k : Nat} {Q : State → Prop} {ls : Array Slot} {b L i x y : Nat} {xs : Nat → Int32} {dC : Nat → ClassId} {dI : Nat → Nat → Nat} {cy : Nat → ClassId} {ad bd : Nat → Nat} {o : Os} {mm : Ms}
set_option maxHeartbeats 4000000 in
set_option maxRecDepth 100000 in
theorem lc_laid (X : LX p s m c b L xs dC dI cy) (hi : i + 6 ≤ L) (hl : lv_has ls 4 [(3, .int (nI i)), (2, .ref y), (1, .ref x), (0, .ref b)]) (h : ST s dC dI cy x y k ad bd o mm H locs) (hk4 : k + 4 ≤ 2048) (hc : cs + 1 ≤ 600000) (hsl : sl + 4 ≤ 7302250) (fin : FN p l e s m below meth c cs sl k Q ls b x y dC dI cy bd) : W p l e room_1 s m #[Value.ref b] below meth c H locs cs sl Q (F0 m 682 ls []) := by
  obtain ⟨hx, hb, hml, hown, hts, hX, hbl, hK, hk, hL⟩ := X
  obtain ⟨h, hP, hD, hS⟩ := h
  have hA : ∀ q : Nat, s.heap.size ≤ q → (fun q : Nat => s.heap.size ≤ q) q := fun _ h => h
  have hbA : ¬ (fun q : Nat => s.heap.size ≤ q) b := Nat.not_le.mpr hbl
  obtain ⟨s1, s2, e1, e2⟩ := ok_laid h (xs (i + 1)) (xs (i + 2)) 
  refine lv_aload_n hx hb dL_law_682 rfl (lv_at hl 2 rfl) ?_
  refine ld_s hx hb hl hX hbl hbA hS hi hL (n := 1) (by decide) rfl dL_law_683 dL_law_684 dL_law_685 dL_law_686 dL_law_687 ?_
  refine ld_s hx hb hl hX hbl hbA hS hi hL (n := 2) (by decide) rfl dL_law_688 dL_law_689 dL_law_690 dL_law_691 dL_law_692 ?_
  have hP1 := va_P_perm (List.perm_append_comm (l₁ := WX cy x ad o) (l₂ := WM cy y bd mm)) hP
  have hD1 := va_D_perm (List.perm_append_comm (l₁ := WX cy x ad o) (l₂ := WM cy y bd mm)) hD
  refine cl_gi (wr := WM cy y bd mm) (wc := WX cy x ad o) (va_runV (As := [.int (xs (i + 1)), .int (xs (i + 2))]) (rest := []) ⟨hx, hb, hml, hown, hts⟩ (qX7_laid l dC dI cy x ad H.size o (xs (i + 1)) (xs (i + 2)) s1) (cwV 2 hts gL_law_X7_laid rfl rfl rfl (by decide +kernel) ⟨Nat.le_of_ble_eq_true rfl, Nat.le_of_ble_eq_true rfl⟩) (pV hK (rt_P hP1) (rt_D hD1) hk (q0 := 0) (wx_h (o := o) rfl) rfl) rfl rfl hl.1 rfl (lv_room (Nat.le_of_ble_eq_true rfl)) dL_law_693 ⟨show _ ≤ 600000 by omega, show _ ≤ 7302250 by omega⟩) hP1 hD1 hS hA (fun r u H locs hw hP hD hS => ?_)
  have hP := va_P_perm (List.perm_append_comm (l₁ := WM cy y bd mm) (l₂ := WX cy x ad u)) hP
  have hD := va_D_perm (List.perm_append_comm (l₁ := WM cy y bd mm) (l₂ := WX cy x ad u)) hD
  refine lv_aload_n hx hb dL_law_696 rfl (lv_at hl 1 rfl) ?_
  refine ld_s hx hb hl hX hbl hbA hS hi hL (n := 1) (by decide) rfl dL_law_697 dL_law_698 dL_law_699 dL_law_700 dL_law_701 ?_
  refine ld_s hx hb hl hX hbl hbA hS hi hL (n := 2) (by decide) rfl dL_law_702 dL_law_703 dL_law_704 dL_law_705 dL_law_706 ?_
  refine cl_gi (wr := WX cy x ad u) (wc := WM cy y bd mm) (va_runV (As := [.int (xs (i + 1)), .int (xs (i + 2))]) (rest := [.int r]) ⟨hx, hb, hml, hown, hts⟩ (qX8_laid l dC dI cy y bd H.size mm (xs (i + 1)) (xs (i + 2)) s2) (cwV 2 hts gL_law_X8_laid rfl rfl rfl (by decide +kernel) ⟨Nat.le_of_ble_eq_true rfl, Nat.le_of_ble_eq_true rfl⟩) (pV hK (rt_P hP) (rt_D hD) hk (q0 := 0) rfl rfl) rfl rfl hl.1 rfl (lv_room (Nat.le_of_ble_eq_true rfl)) dL_law_707 ⟨show _ ≤ 600000 by omega, show _ ≤ 7302250 by omega⟩) hP hD hS hA (fun r2 u2 H locs hw2 hP hD hS => ?_)
  have er : r = r2 := (congrArg Prod.fst hw).trans (e1.trans (congrArg Prod.fst hw2).symm)
  have eu : u = _ := congrArg Prod.snd hw
  have ev : u2 = _ := congrArg Prod.snd hw2
  rw [← eu, ← ev] at e2
  refine lv_icmp_eq (tgt := 1424) hx hb dL_law_710 (by decide) (fun cq => ?_) (fun cq => absurd er cq)
  refine W.widen (k := cs + 1) (n := sl + 4) (by omega) (by omega) ?_
  exact fin u u2 ad H locs ⟨e2.more (by omega), hP, hD, hS⟩
set_option maxHeartbeats 4000000 in
set_option maxRecDepth 100000 in
theorem lc_pulls (X : LX p s m c b L xs dC dI cy) (hi : i + 6 ≤ L) (hl : lv_has ls 4 [(3, .int (nI i)), (2, .ref y), (1, .ref x), (0, .ref b)]) (h : ST s dC dI cy x y k ad bd o mm H locs) (hk4 : k + 4 ≤ 2048) (hc : cs + 1 ≤ 600000) (hsl : sl + 4 ≤ 7302250) (fin : FN p l e s m below meth c cs sl k Q ls b x y dC dI cy bd) : W p l e room_1 s m #[Value.ref b] below meth c H locs cs sl Q (F0 m 715 ls []) := by
  obtain ⟨hx, hb, hml, hown, hts, hX, hbl, hK, hk, hL⟩ := X
  obtain ⟨h, hP, hD, hS⟩ := h
  have hA : ∀ q : Nat, s.heap.size ≤ q → (fun q : Nat => s.heap.size ≤ q) q := fun _ h => h
  have hbA : ¬ (fun q : Nat => s.heap.size ≤ q) b := Nat.not_le.mpr hbl
  obtain ⟨s1, s2, e1⟩ := ok_pulls h (xs (i + 1)) 
  refine lv_aload_n hx hb dL_law_715 rfl (lv_at hl 2 rfl) ?_
  refine ld_s hx hb hl hX hbl hbA hS hi hL (n := 1) (by decide) rfl dL_law_716 dL_law_717 dL_law_718 dL_law_719 dL_law_720 ?_
  have hP1 := va_P_perm (List.perm_append_comm (l₁ := WX cy x ad o) (l₂ := WM cy y bd mm)) hP
  have hD1 := va_D_perm (List.perm_append_comm (l₁ := WX cy x ad o) (l₂ := WM cy y bd mm)) hD
  refine vp_callSi (W.runV (As := [.int (xs (i + 1))]) (rest := []) ⟨hx, hb, hml, hown, hts⟩ (qX7_pulls l dC dI cy x ad H.size o (xs (i + 1)) s1) (cwV 1 hts gL_law_X7_pulls rfl rfl rfl (by decide +kernel) ⟨Nat.le_of_ble_eq_true rfl, Nat.le_of_ble_eq_true rfl⟩) (pV hK (rt_P hP1) (rt_D hD1) hk (q0 := 0) (wx_h (o := o) rfl) rfl) rfl rfl hl.1 rfl (lv_room (Nat.le_of_ble_eq_true rfl)) dL_law_721 ⟨show _ ≤ 600000 by omega, show _ ≤ 7302250 by omega⟩) (fun r hr1 => ?_)
  refine lv_aload_n hx hb dL_law_724 rfl (lv_at hl 1 rfl) ?_
  refine ld_s hx hb hl hX hbl hbA hS hi hL (n := 1) (by decide) rfl dL_law_725 dL_law_726 dL_law_727 dL_law_728 dL_law_729 ?_
  refine vp_callSi (W.runV (As := [.int (xs (i + 1))]) (rest := [.int r]) ⟨hx, hb, hml, hown, hts⟩ (qX8_pulls l dC dI cy y bd H.size mm (xs (i + 1)) s2) (cwV 1 hts gL_law_X8_pulls rfl rfl rfl (by decide +kernel) ⟨Nat.le_of_ble_eq_true rfl, Nat.le_of_ble_eq_true rfl⟩) (pV hK (rt_P hP) (rt_D hD) hk (q0 := 0) rfl rfl) rfl rfl hl.1 rfl (lv_room (Nat.le_of_ble_eq_true rfl)) dL_law_730 ⟨show _ ≤ 600000 by omega, show _ ≤ 7302250 by omega⟩) (fun r2 hr2 => ?_)
  have er : r = r2 := hr1.trans (e1.trans hr2.symm)
  refine lv_icmp_eq (tgt := 1424) hx hb dL_law_733 (by decide) (fun cq => ?_) (fun cq => absurd er cq)
  refine W.widen (k := cs + 1) (n := sl + 4) (by omega) (by omega) ?_
  exact fin o mm ad H locs ⟨h.more (by omega), hP, hD, hS⟩
set_option maxHeartbeats 4000000 in
set_option maxRecDepth 100000 in
theorem lc_log (X : LX p s m c b L xs dC dI cy) (hi : i + 6 ≤ L) (hl : lv_has ls 4 [(3, .int (nI i)), (2, .ref y), (1, .ref x), (0, .ref b)]) (h : ST s dC dI cy x y k ad bd o mm H locs) (hk4 : k + 4 ≤ 2048) (hc : cs + 1 ≤ 600000) (hsl : sl + 4 ≤ 7302250) (fin : FN p l e s m below meth c cs sl k Q ls b x y dC dI cy bd) : W p l e room_1 s m #[Value.ref b] below meth c H locs cs sl Q (F0 m 738 ls []) := by
  obtain ⟨hx, hb, hml, hown, hts, hX, hbl, hK, hk, hL⟩ := X
  obtain ⟨h, hP, hD, hS⟩ := h
  have hA : ∀ q : Nat, s.heap.size ≤ q → (fun q : Nat => s.heap.size ≤ q) q := fun _ h => h
  have hbA : ¬ (fun q : Nat => s.heap.size ≤ q) b := Nat.not_le.mpr hbl
  obtain ⟨s1, s2, e1, e2⟩ := ok_log h (xs (i + 1)) (bz (xs (i + 2))) (xs (i + 3)) (bz_01 _)
  refine lv_aload_n hx hb dL_law_738 rfl (lv_at hl 2 rfl) ?_
  refine ld_s hx hb hl hX hbl hbA hS hi hL (n := 1) (by decide) rfl dL_law_739 dL_law_740 dL_law_741 dL_law_742 dL_law_743 ?_
  refine ld_s hx hb hl hX hbl hbA hS hi hL (n := 2) (by decide) rfl dL_law_744 dL_law_745 dL_law_746 dL_law_747 dL_law_748 ?_
  refine jn_b hx hb dL_law_749 dL_law_752 dL_law_753 dL_law_756 ?_
  refine ld_s hx hb hl hX hbl hbA hS hi hL (n := 3) (by decide) rfl dL_law_757 dL_law_758 dL_law_759 dL_law_760 dL_law_761 ?_
  have hP1 := va_P_perm (List.perm_append_comm (l₁ := WX cy x ad o) (l₂ := WM cy y bd mm)) hP
  have hD1 := va_D_perm (List.perm_append_comm (l₁ := WX cy x ad o) (l₂ := WM cy y bd mm)) hD
  refine cl_gi (wr := WM cy y bd mm) (wc := WX cy x ad o) (va_runV (As := [.int (xs (i + 1)), .int (bz (xs (i + 2))), .int (xs (i + 3))]) (rest := []) ⟨hx, hb, hml, hown, hts⟩ (qX7_log l dC dI cy x ad H.size o (xs (i + 1)) (bz (xs (i + 2))) (xs (i + 3)) s1) (cwV 3 hts gL_law_X7_log rfl rfl rfl (by decide +kernel) ⟨Nat.le_of_ble_eq_true rfl, Nat.le_of_ble_eq_true rfl⟩) (pV hK (rt_P hP1) (rt_D hD1) hk (q0 := 0) (wx_h (o := o) rfl) rfl) rfl rfl hl.1 rfl (lv_room (Nat.le_of_ble_eq_true rfl)) dL_law_762 ⟨show _ ≤ 600000 by omega, show _ ≤ 7302250 by omega⟩) hP1 hD1 hS hA (fun r u H locs hw hP hD hS => ?_)
  have hP := va_P_perm (List.perm_append_comm (l₁ := WM cy y bd mm) (l₂ := WX cy x ad u)) hP
  have hD := va_D_perm (List.perm_append_comm (l₁ := WM cy y bd mm) (l₂ := WX cy x ad u)) hD
  refine lv_aload_n hx hb dL_law_765 rfl (lv_at hl 1 rfl) ?_
  refine ld_s hx hb hl hX hbl hbA hS hi hL (n := 1) (by decide) rfl dL_law_766 dL_law_767 dL_law_768 dL_law_769 dL_law_770 ?_
  refine ld_s hx hb hl hX hbl hbA hS hi hL (n := 2) (by decide) rfl dL_law_771 dL_law_772 dL_law_773 dL_law_774 dL_law_775 ?_
  refine jn_b hx hb dL_law_776 dL_law_779 dL_law_780 dL_law_783 ?_
  refine ld_s hx hb hl hX hbl hbA hS hi hL (n := 3) (by decide) rfl dL_law_784 dL_law_785 dL_law_786 dL_law_787 dL_law_788 ?_
  refine cl_gi (wr := WX cy x ad u) (wc := WM cy y bd mm) (va_runV (As := [.int (xs (i + 1)), .int (bz (xs (i + 2))), .int (xs (i + 3))]) (rest := [.int r]) ⟨hx, hb, hml, hown, hts⟩ (qX8_log l dC dI cy y bd H.size mm (xs (i + 1)) (bz (xs (i + 2))) (xs (i + 3)) s2) (cwV 3 hts gL_law_X8_log rfl rfl rfl (by decide +kernel) ⟨Nat.le_of_ble_eq_true rfl, Nat.le_of_ble_eq_true rfl⟩) (pV hK (rt_P hP) (rt_D hD) hk (q0 := 0) rfl rfl) rfl rfl hl.1 rfl (lv_room (Nat.le_of_ble_eq_true rfl)) dL_law_789 ⟨show _ ≤ 600000 by omega, show _ ≤ 7302250 by omega⟩) hP hD hS hA (fun r2 u2 H locs hw2 hP hD hS => ?_)
  have er : r = r2 := (congrArg Prod.fst hw).trans (e1.trans (congrArg Prod.fst hw2).symm)
  have eu : u = _ := congrArg Prod.snd hw
  have ev : u2 = _ := congrArg Prod.snd hw2
  rw [← eu, ← ev] at e2
  refine lv_icmp_eq (tgt := 1424) hx hb dL_law_792 (by decide) (fun cq => ?_) (fun cq => absurd er cq)
  refine W.widen (k := cs + 1) (n := sl + 4) (by omega) (by omega) ?_
  exact fin u u2 ad H locs ⟨e2.more (by omega), hP, hD, hS⟩
set_option maxHeartbeats 4000000 in
set_option maxRecDepth 100000 in
theorem lc_write (X : LX p s m c b L xs dC dI cy) (hi : i + 6 ≤ L) (hl : lv_has ls 4 [(3, .int (nI i)), (2, .ref y), (1, .ref x), (0, .ref b)]) (h : ST s dC dI cy x y k ad bd o mm H locs) (hk4 : k + 4 ≤ 2048) (hc : cs + 1 ≤ 600000) (hsl : sl + 4 ≤ 7302250) (fin : FN p l e s m below meth c cs sl k Q ls b x y dC dI cy bd) : W p l e room_1 s m #[Value.ref b] below meth c H locs cs sl Q (F0 m 797 ls []) := by
  obtain ⟨hx, hb, hml, hown, hts, hX, hbl, hK, hk, hL⟩ := X
  obtain ⟨h, hP, hD, hS⟩ := h
  have hA : ∀ q : Nat, s.heap.size ≤ q → (fun q : Nat => s.heap.size ≤ q) q := fun _ h => h
  have hbA : ¬ (fun q : Nat => s.heap.size ≤ q) b := Nat.not_le.mpr hbl
  obtain ⟨s1, s2, e1, e2⟩ := ok_write h (xs (i + 1)) (bz (xs (i + 2))) (xs (i + 3)) (lw (xs (i + 4)) (xs (i + 5))) (bz_01 _)
  refine lv_aload_n hx hb dL_law_797 rfl (lv_at hl 2 rfl) ?_
  refine ld_s hx hb hl hX hbl hbA hS hi hL (n := 1) (by decide) rfl dL_law_798 dL_law_799 dL_law_800 dL_law_801 dL_law_802 ?_
  refine ld_s hx hb hl hX hbl hbA hS hi hL (n := 2) (by decide) rfl dL_law_803 dL_law_804 dL_law_805 dL_law_806 dL_law_807 ?_
  refine jn_b hx hb dL_law_808 dL_law_811 dL_law_812 dL_law_815 ?_
  refine ld_s hx hb hl hX hbl hbA hS hi hL (n := 3) (by decide) rfl dL_law_816 dL_law_817 dL_law_818 dL_law_819 dL_law_820 ?_
  refine ld_s hx hb hl hX hbl hbA hS hi hL (n := 4) (by decide) rfl dL_law_821 dL_law_822 dL_law_823 dL_law_824 dL_law_825 ?_
  refine lv_i2l (v := (xs (i + 4)).toInt64) hx hb dL_law_826 rfl ?_
  refine lv_bipush (v := (32 : Int32)) hx hb dL_law_827 (by decide) ?_
  refine lv_lshl (v := ((xs (i + 4)).toInt64 <<< ((32 : Int32).toInt64 &&& 63))) hx hb dL_law_829 rfl ?_
  refine ld_s hx hb hl hX hbl hbA hS hi hL (n := 5) (by decide) rfl dL_law_830 dL_law_831 dL_law_832 dL_law_833 dL_law_834 ?_
  refine lv_i2l (v := (xs (i + 5)).toInt64) hx hb dL_law_835 rfl ?_
  refine lv_ldc2 (v := (4294967295 : Int64)) hx hb hown (hts (.constantLong RL 13 4294967295) mL_13) dL_law_836 ?_
  refine lv_land hx hb dL_law_839 ?_
  refine lv_lor hx hb dL_law_840 ?_
  have hP1 := va_P_perm (List.perm_append_comm (l₁ := WX cy x ad o) (l₂ := WM cy y bd mm)) hP
  have hD1 := va_D_perm (List.perm_append_comm (l₁ := WX cy x ad o) (l₂ := WM cy y bd mm)) hD
  refine cl_gi (wr := WM cy y bd mm) (wc := WX cy x ad o) (va_runV (As := [.int (xs (i + 1)), .int (bz (xs (i + 2))), .int (xs (i + 3)), .long (lw (xs (i + 4)) (xs (i + 5)))]) (rest := []) ⟨hx, hb, hml, hown, hts⟩ (qX7_write l dC dI cy x ad H.size o (xs (i + 1)) (bz (xs (i + 2))) (xs (i + 3)) (lw (xs (i + 4)) (xs (i + 5))) s1) (cwV 4 hts gL_law_X7_write rfl rfl rfl (by decide +kernel) ⟨Nat.le_of_ble_eq_true rfl, Nat.le_of_ble_eq_true rfl⟩) (pV hK (rt_P hP1) (rt_D hD1) hk (q0 := 0) (wx_h (o := o) rfl) rfl) rfl rfl hl.1 rfl (lv_room (Nat.le_of_ble_eq_true rfl)) dL_law_841 ⟨show _ ≤ 600000 by omega, show _ ≤ 7302250 by omega⟩) hP1 hD1 hS hA (fun r u H locs hw hP hD hS => ?_)
  have hP := va_P_perm (List.perm_append_comm (l₁ := WM cy y bd mm) (l₂ := WX cy x ad u)) hP
  have hD := va_D_perm (List.perm_append_comm (l₁ := WM cy y bd mm) (l₂ := WX cy x ad u)) hD
  refine lv_aload_n hx hb dL_law_844 rfl (lv_at hl 1 rfl) ?_
  refine ld_s hx hb hl hX hbl hbA hS hi hL (n := 1) (by decide) rfl dL_law_845 dL_law_846 dL_law_847 dL_law_848 dL_law_849 ?_
  refine ld_s hx hb hl hX hbl hbA hS hi hL (n := 2) (by decide) rfl dL_law_850 dL_law_851 dL_law_852 dL_law_853 dL_law_854 ?_
  refine jn_b hx hb dL_law_855 dL_law_858 dL_law_859 dL_law_862 ?_
  refine ld_s hx hb hl hX hbl hbA hS hi hL (n := 3) (by decide) rfl dL_law_863 dL_law_864 dL_law_865 dL_law_866 dL_law_867 ?_
  refine ld_s hx hb hl hX hbl hbA hS hi hL (n := 4) (by decide) rfl dL_law_868 dL_law_869 dL_law_870 dL_law_871 dL_law_872 ?_
  refine lv_i2l (v := (xs (i + 4)).toInt64) hx hb dL_law_873 rfl ?_
  refine lv_bipush (v := (32 : Int32)) hx hb dL_law_874 (by decide) ?_
  refine lv_lshl (v := ((xs (i + 4)).toInt64 <<< ((32 : Int32).toInt64 &&& 63))) hx hb dL_law_876 rfl ?_
  refine ld_s hx hb hl hX hbl hbA hS hi hL (n := 5) (by decide) rfl dL_law_877 dL_law_878 dL_law_879 dL_law_880 dL_law_881 ?_
  refine lv_i2l (v := (xs (i + 5)).toInt64) hx hb dL_law_882 rfl ?_
  refine lv_ldc2 (v := (4294967295 : Int64)) hx hb hown (hts (.constantLong RL 13 4294967295) mL_13) dL_law_883 ?_
  refine lv_land hx hb dL_law_886 ?_
  refine lv_lor hx hb dL_law_887 ?_
  refine cl_gi (wr := WX cy x ad u) (wc := WM cy y bd mm) (va_runV (As := [.int (xs (i + 1)), .int (bz (xs (i + 2))), .int (xs (i + 3)), .long (lw (xs (i + 4)) (xs (i + 5)))]) (rest := [.int r]) ⟨hx, hb, hml, hown, hts⟩ (qX8_write l dC dI cy y bd H.size mm (xs (i + 1)) (bz (xs (i + 2))) (xs (i + 3)) (lw (xs (i + 4)) (xs (i + 5))) s2) (cwV 4 hts gL_law_X8_write rfl rfl rfl (by decide +kernel) ⟨Nat.le_of_ble_eq_true rfl, Nat.le_of_ble_eq_true rfl⟩) (pV hK (rt_P hP) (rt_D hD) hk (q0 := 0) rfl rfl) rfl rfl hl.1 rfl (lv_room (Nat.le_of_ble_eq_true rfl)) dL_law_888 ⟨show _ ≤ 600000 by omega, show _ ≤ 7302250 by omega⟩) hP hD hS hA (fun r2 u2 H locs hw2 hP hD hS => ?_)
  have er : r = r2 := (congrArg Prod.fst hw).trans (e1.trans (congrArg Prod.fst hw2).symm)
  have eu : u = _ := congrArg Prod.snd hw
  have ev : u2 = _ := congrArg Prod.snd hw2
  rw [← eu, ← ev] at e2
  refine lv_icmp_eq (tgt := 1424) hx hb dL_law_891 (by decide) (fun cq => ?_) (fun cq => absurd er cq)
  refine W.widen (k := cs + 1) (n := sl + 4) (by omega) (by omega) ?_
  exact fin u u2 ad H locs ⟨e2.more (by omega), hP, hD, hS⟩
set_option maxHeartbeats 4000000 in
set_option maxRecDepth 100000 in
theorem lc_read (X : LX p s m c b L xs dC dI cy) (hi : i + 6 ≤ L) (hl : lv_has ls 4 [(3, .int (nI i)), (2, .ref y), (1, .ref x), (0, .ref b)]) (h : ST s dC dI cy x y k ad bd o mm H locs) (hk4 : k + 4 ≤ 2048) (hc : cs + 1 ≤ 600000) (hsl : sl + 4 ≤ 7302250) (fin : FN p l e s m below meth c cs sl k Q ls b x y dC dI cy bd) : W p l e room_1 s m #[Value.ref b] below meth c H locs cs sl Q (F0 m 896 ls []) := by
  obtain ⟨hx, hb, hml, hown, hts, hX, hbl, hK, hk, hL⟩ := X
  obtain ⟨h, hP, hD, hS⟩ := h
  have hA : ∀ q : Nat, s.heap.size ≤ q → (fun q : Nat => s.heap.size ≤ q) q := fun _ h => h
  have hbA : ¬ (fun q : Nat => s.heap.size ≤ q) b := Nat.not_le.mpr hbl
  obtain ⟨s1, s2, e1, e2⟩ := ok_read h (xs (i + 1)) (bz (xs (i + 2))) (xs (i + 3)) (bz_01 _)
  refine lv_aload_n hx hb dL_law_896 rfl (lv_at hl 2 rfl) ?_
  refine ld_s hx hb hl hX hbl hbA hS hi hL (n := 1) (by decide) rfl dL_law_897 dL_law_898 dL_law_899 dL_law_900 dL_law_901 ?_
  refine ld_s hx hb hl hX hbl hbA hS hi hL (n := 2) (by decide) rfl dL_law_902 dL_law_903 dL_law_904 dL_law_905 dL_law_906 ?_
  refine jn_b hx hb dL_law_907 dL_law_910 dL_law_911 dL_law_914 ?_
  refine ld_s hx hb hl hX hbl hbA hS hi hL (n := 3) (by decide) rfl dL_law_915 dL_law_916 dL_law_917 dL_law_918 dL_law_919 ?_
  have hP1 := va_P_perm (List.perm_append_comm (l₁ := WX cy x ad o) (l₂ := WM cy y bd mm)) hP
  have hD1 := va_D_perm (List.perm_append_comm (l₁ := WX cy x ad o) (l₂ := WM cy y bd mm)) hD
  refine cl_gi (wr := WM cy y bd mm) (wc := WX cy x ad o) (va_runV (As := [.int (xs (i + 1)), .int (bz (xs (i + 2))), .int (xs (i + 3))]) (rest := []) ⟨hx, hb, hml, hown, hts⟩ (qX7_read l dC dI cy x ad H.size o (xs (i + 1)) (bz (xs (i + 2))) (xs (i + 3)) s1) (cwV 3 hts gL_law_X7_read rfl rfl rfl (by decide +kernel) ⟨Nat.le_of_ble_eq_true rfl, Nat.le_of_ble_eq_true rfl⟩) (pV hK (rt_P hP1) (rt_D hD1) hk (q0 := 0) (wx_h (o := o) rfl) rfl) rfl rfl hl.1 rfl (lv_room (Nat.le_of_ble_eq_true rfl)) dL_law_920 ⟨show _ ≤ 600000 by omega, show _ ≤ 7302250 by omega⟩) hP1 hD1 hS hA (fun r u H locs hw hP hD hS => ?_)
  have hP := va_P_perm (List.perm_append_comm (l₁ := WM cy y bd mm) (l₂ := WX cy x ad u)) hP
  have hD := va_D_perm (List.perm_append_comm (l₁ := WM cy y bd mm) (l₂ := WX cy x ad u)) hD
  refine lv_aload_n hx hb dL_law_923 rfl (lv_at hl 1 rfl) ?_
  refine ld_s hx hb hl hX hbl hbA hS hi hL (n := 1) (by decide) rfl dL_law_924 dL_law_925 dL_law_926 dL_law_927 dL_law_928 ?_
  refine ld_s hx hb hl hX hbl hbA hS hi hL (n := 2) (by decide) rfl dL_law_929 dL_law_930 dL_law_931 dL_law_932 dL_law_933 ?_
  refine jn_b hx hb dL_law_934 dL_law_937 dL_law_938 dL_law_941 ?_
  refine ld_s hx hb hl hX hbl hbA hS hi hL (n := 3) (by decide) rfl dL_law_942 dL_law_943 dL_law_944 dL_law_945 dL_law_946 ?_
  refine cl_gi (wr := WX cy x ad u) (wc := WM cy y bd mm) (va_runV (As := [.int (xs (i + 1)), .int (bz (xs (i + 2))), .int (xs (i + 3))]) (rest := [.int r]) ⟨hx, hb, hml, hown, hts⟩ (qX8_read l dC dI cy y bd H.size mm (xs (i + 1)) (bz (xs (i + 2))) (xs (i + 3)) s2) (cwV 3 hts gL_law_X8_read rfl rfl rfl (by decide +kernel) ⟨Nat.le_of_ble_eq_true rfl, Nat.le_of_ble_eq_true rfl⟩) (pV hK (rt_P hP) (rt_D hD) hk (q0 := 0) rfl rfl) rfl rfl hl.1 rfl (lv_room (Nat.le_of_ble_eq_true rfl)) dL_law_947 ⟨show _ ≤ 600000 by omega, show _ ≤ 7302250 by omega⟩) hP hD hS hA (fun r2 u2 H locs hw2 hP hD hS => ?_)
  have er : r = r2 := (congrArg Prod.fst hw).trans (e1.trans (congrArg Prod.fst hw2).symm)
  have eu : u = _ := congrArg Prod.snd hw
  have ev : u2 = _ := congrArg Prod.snd hw2
  rw [← eu, ← ev] at e2
  refine lv_icmp_eq (tgt := 1424) hx hb dL_law_950 (by decide) (fun cq => ?_) (fun cq => absurd er cq)
  refine W.widen (k := cs + 1) (n := sl + 4) (by omega) (by omega) ?_
  exact fin u u2 ad H locs ⟨e2.more (by omega), hP, hD, hS⟩
set_option maxHeartbeats 4000000 in
set_option maxRecDepth 100000 in
theorem lc_seen (X : LX p s m c b L xs dC dI cy) (hi : i + 6 ≤ L) (hl : lv_has ls 4 [(3, .int (nI i)), (2, .ref y), (1, .ref x), (0, .ref b)]) (h : ST s dC dI cy x y k ad bd o mm H locs) (hk4 : k + 4 ≤ 2048) (hc : cs + 1 ≤ 600000) (hsl : sl + 4 ≤ 7302250) (fin : FN p l e s m below meth c cs sl k Q ls b x y dC dI cy bd) : W p l e room_1 s m #[Value.ref b] below meth c H locs cs sl Q (F0 m 955 ls []) := by
  obtain ⟨hx, hb, hml, hown, hts, hX, hbl, hK, hk, hL⟩ := X
  obtain ⟨h, hP, hD, hS⟩ := h
  have hA : ∀ q : Nat, s.heap.size ≤ q → (fun q : Nat => s.heap.size ≤ q) q := fun _ h => h
  have hbA : ¬ (fun q : Nat => s.heap.size ≤ q) b := Nat.not_le.mpr hbl
  have e1 := ok_seen h
  refine lv_aload_n hx hb dL_law_955 rfl (lv_at hl 2 rfl) ?_
  have hP1 := va_P_perm (List.perm_append_comm (l₁ := WX cy x ad o) (l₂ := WM cy y bd mm)) hP
  have hD1 := va_D_perm (List.perm_append_comm (l₁ := WX cy x ad o) (l₂ := WM cy y bd mm)) hD
  refine vp_callSl (W.runV (As := []) (rest := []) ⟨hx, hb, hml, hown, hts⟩ (qX7_seen l dC dI cy x ad H.size o ) (cwV 0 hts gL_law_X7_seen rfl rfl rfl (by decide +kernel) ⟨Nat.le_of_ble_eq_true rfl, Nat.le_of_ble_eq_true rfl⟩) (pV hK (rt_P hP1) (rt_D hD1) hk (q0 := 0) (wx_h (o := o) rfl) rfl) rfl rfl hl.1 rfl (lv_room (Nat.le_of_ble_eq_true rfl)) dL_law_956 ⟨show _ ≤ 600000 by omega, show _ ≤ 7302250 by omega⟩) (fun r hr1 => ?_)
  refine lv_aload_n hx hb dL_law_959 rfl (lv_at hl 1 rfl) ?_
  refine vp_callSl (W.runV (As := []) (rest := [.long r]) ⟨hx, hb, hml, hown, hts⟩ (qX8_seen l dC dI cy y bd H.size mm ) (cwV 0 hts gL_law_X8_seen rfl rfl rfl (by decide +kernel) ⟨Nat.le_of_ble_eq_true rfl, Nat.le_of_ble_eq_true rfl⟩) (pV hK (rt_P hP) (rt_D hD) hk (q0 := 0) rfl rfl) rfl rfl hl.1 rfl (lv_room (Nat.le_of_ble_eq_true rfl)) dL_law_960 ⟨show _ ≤ 600000 by omega, show _ ≤ 7302250 by omega⟩) (fun r2 hr2 => ?_)
  have er : r = r2 := hr1.trans (e1.trans hr2.symm)
  refine W.lcmp hx hb dL_law_963 ?_
  refine lv_if_eq (tgt := 1424) hx hb dL_law_964 (by decide) (fun cq => ?_) (fun cq => absurd er (mt (lg_cmp_eq _ _).mpr cq))
  refine W.widen (k := cs + 1) (n := sl + 4) (by omega) (by omega) ?_
  exact fin o mm ad H locs ⟨h.more (by omega), hP, hD, hS⟩
set_option maxHeartbeats 4000000 in
set_option maxRecDepth 100000 in
theorem lc_note (X : LX p s m c b L xs dC dI cy) (hi : i + 6 ≤ L) (hl : lv_has ls 4 [(3, .int (nI i)), (2, .ref y), (1, .ref x), (0, .ref b)]) (h : ST s dC dI cy x y k ad bd o mm H locs) (hk4 : k + 4 ≤ 2048) (hc : cs + 1 ≤ 600000) (hsl : sl + 4 ≤ 7302250) (fin : FN p l e s m below meth c cs sl k Q ls b x y dC dI cy bd) : W p l e room_1 s m #[Value.ref b] below meth c H locs cs sl Q (F0 m 969 ls []) := by
  obtain ⟨hx, hb, hml, hown, hts, hX, hbl, hK, hk, hL⟩ := X
  obtain ⟨h, hP, hD, hS⟩ := h
  have hA : ∀ q : Nat, s.heap.size ≤ q → (fun q : Nat => s.heap.size ≤ q) q := fun _ h => h
  have hbA : ¬ (fun q : Nat => s.heap.size ≤ q) b := Nat.not_le.mpr hbl
  obtain ⟨s1, s2, e1, e2⟩ := ok_note h (xs (i + 1)) (bz (xs (i + 2))) (xs (i + 3)) (xs (i + 4)) (bz_01 _)
  refine lv_aload_n hx hb dL_law_969 rfl (lv_at hl 2 rfl) ?_
  refine ld_s hx hb hl hX hbl hbA hS hi hL (n := 1) (by decide) rfl dL_law_970 dL_law_971 dL_law_972 dL_law_973 dL_law_974 ?_
  refine ld_s hx hb hl hX hbl hbA hS hi hL (n := 2) (by decide) rfl dL_law_975 dL_law_976 dL_law_977 dL_law_978 dL_law_979 ?_
  refine jn_b hx hb dL_law_980 dL_law_983 dL_law_984 dL_law_987 ?_
  refine ld_s hx hb hl hX hbl hbA hS hi hL (n := 3) (by decide) rfl dL_law_988 dL_law_989 dL_law_990 dL_law_991 dL_law_992 ?_
  refine ld_s hx hb hl hX hbl hbA hS hi hL (n := 4) (by decide) rfl dL_law_993 dL_law_994 dL_law_995 dL_law_996 dL_law_997 ?_
  have hP1 := va_P_perm (List.perm_append_comm (l₁ := WX cy x ad o) (l₂ := WM cy y bd mm)) hP
  have hD1 := va_D_perm (List.perm_append_comm (l₁ := WX cy x ad o) (l₂ := WM cy y bd mm)) hD
  refine cl_gi (wr := WM cy y bd mm) (wc := WX cy x ad o) (va_runV (As := [.int (xs (i + 1)), .int (bz (xs (i + 2))), .int (xs (i + 3)), .int (xs (i + 4))]) (rest := []) ⟨hx, hb, hml, hown, hts⟩ (qX7_note l dC dI cy x ad H.size o (xs (i + 1)) (bz (xs (i + 2))) (xs (i + 3)) (xs (i + 4)) s1) (cwV 4 hts gL_law_X7_note rfl rfl rfl (by decide +kernel) ⟨Nat.le_of_ble_eq_true rfl, Nat.le_of_ble_eq_true rfl⟩) (pV hK (rt_P hP1) (rt_D hD1) hk (q0 := 0) (wx_h (o := o) rfl) rfl) rfl rfl hl.1 rfl (lv_room (Nat.le_of_ble_eq_true rfl)) dL_law_998 ⟨show _ ≤ 600000 by omega, show _ ≤ 7302250 by omega⟩) hP1 hD1 hS hA (fun r u H locs hw hP hD hS => ?_)
  have hP := va_P_perm (List.perm_append_comm (l₁ := WM cy y bd mm) (l₂ := WX cy x ad u)) hP
  have hD := va_D_perm (List.perm_append_comm (l₁ := WM cy y bd mm) (l₂ := WX cy x ad u)) hD
  refine lv_aload_n hx hb dL_law_1001 rfl (lv_at hl 1 rfl) ?_
  refine ld_s hx hb hl hX hbl hbA hS hi hL (n := 1) (by decide) rfl dL_law_1002 dL_law_1003 dL_law_1004 dL_law_1005 dL_law_1006 ?_
  refine ld_s hx hb hl hX hbl hbA hS hi hL (n := 2) (by decide) rfl dL_law_1007 dL_law_1008 dL_law_1009 dL_law_1010 dL_law_1011 ?_
  refine jn_b hx hb dL_law_1012 dL_law_1015 dL_law_1016 dL_law_1019 ?_
  refine ld_s hx hb hl hX hbl hbA hS hi hL (n := 3) (by decide) rfl dL_law_1020 dL_law_1021 dL_law_1022 dL_law_1023 dL_law_1024 ?_
  refine ld_s hx hb hl hX hbl hbA hS hi hL (n := 4) (by decide) rfl dL_law_1025 dL_law_1026 dL_law_1027 dL_law_1028 dL_law_1029 ?_
  refine cl_gi (wr := WX cy x ad u) (wc := WM cy y bd mm) (va_runV (As := [.int (xs (i + 1)), .int (bz (xs (i + 2))), .int (xs (i + 3)), .int (xs (i + 4))]) (rest := [.int r]) ⟨hx, hb, hml, hown, hts⟩ (qX8_note l dC dI cy y bd H.size mm (xs (i + 1)) (bz (xs (i + 2))) (xs (i + 3)) (xs (i + 4)) s2) (cwV 4 hts gL_law_X8_note rfl rfl rfl (by decide +kernel) ⟨Nat.le_of_ble_eq_true rfl, Nat.le_of_ble_eq_true rfl⟩) (pV hK (rt_P hP) (rt_D hD) hk (q0 := 0) rfl rfl) rfl rfl hl.1 rfl (lv_room (Nat.le_of_ble_eq_true rfl)) dL_law_1030 ⟨show _ ≤ 600000 by omega, show _ ≤ 7302250 by omega⟩) hP hD hS hA (fun r2 u2 H locs hw2 hP hD hS => ?_)
  have er : r = r2 := (congrArg Prod.fst hw).trans (e1.trans (congrArg Prod.fst hw2).symm)
  have eu : u = _ := congrArg Prod.snd hw
  have ev : u2 = _ := congrArg Prod.snd hw2
  rw [← eu, ← ev] at e2
  refine lv_icmp_eq (tgt := 1424) hx hb dL_law_1033 (by decide) (fun cq => ?_) (fun cq => absurd er cq)
  refine W.widen (k := cs + 1) (n := sl + 4) (by omega) (by omega) ?_
  exact fin u u2 ad H locs ⟨e2.more (by omega), hP, hD, hS⟩
set_option maxHeartbeats 4000000 in
set_option maxRecDepth 100000 in
theorem lc_recall (X : LX p s m c b L xs dC dI cy) (hi : i + 6 ≤ L) (hl : lv_has ls 4 [(3, .int (nI i)), (2, .ref y), (1, .ref x), (0, .ref b)]) (h : ST s dC dI cy x y k ad bd o mm H locs) (hk4 : k + 4 ≤ 2048) (hc : cs + 1 ≤ 600000) (hsl : sl + 4 ≤ 7302250) (fin : FN p l e s m below meth c cs sl k Q ls b x y dC dI cy bd) : W p l e room_1 s m #[Value.ref b] below meth c H locs cs sl Q (F0 m 1038 ls []) := by
  obtain ⟨hx, hb, hml, hown, hts, hX, hbl, hK, hk, hL⟩ := X
  obtain ⟨h, hP, hD, hS⟩ := h
  have hA : ∀ q : Nat, s.heap.size ≤ q → (fun q : Nat => s.heap.size ≤ q) q := fun _ h => h
  have hbA : ¬ (fun q : Nat => s.heap.size ≤ q) b := Nat.not_le.mpr hbl
  obtain ⟨s1, s2, e1, e2⟩ := ok_recall h (xs (i + 1)) (bz (xs (i + 2))) (xs (i + 3)) (xs (i + 4)) (bz_01 _)
  refine lv_aload_n hx hb dL_law_1038 rfl (lv_at hl 2 rfl) ?_
  refine ld_s hx hb hl hX hbl hbA hS hi hL (n := 1) (by decide) rfl dL_law_1039 dL_law_1040 dL_law_1041 dL_law_1042 dL_law_1043 ?_
  refine ld_s hx hb hl hX hbl hbA hS hi hL (n := 2) (by decide) rfl dL_law_1044 dL_law_1045 dL_law_1046 dL_law_1047 dL_law_1048 ?_
  refine jn_b hx hb dL_law_1049 dL_law_1052 dL_law_1053 dL_law_1056 ?_
  refine ld_s hx hb hl hX hbl hbA hS hi hL (n := 3) (by decide) rfl dL_law_1057 dL_law_1058 dL_law_1059 dL_law_1060 dL_law_1061 ?_
  refine ld_s hx hb hl hX hbl hbA hS hi hL (n := 4) (by decide) rfl dL_law_1062 dL_law_1063 dL_law_1064 dL_law_1065 dL_law_1066 ?_
  have hP1 := va_P_perm (List.perm_append_comm (l₁ := WX cy x ad o) (l₂ := WM cy y bd mm)) hP
  have hD1 := va_D_perm (List.perm_append_comm (l₁ := WX cy x ad o) (l₂ := WM cy y bd mm)) hD
  refine cl_gi (wr := WM cy y bd mm) (wc := WX cy x ad o) (va_runV (As := [.int (xs (i + 1)), .int (bz (xs (i + 2))), .int (xs (i + 3)), .int (xs (i + 4))]) (rest := []) ⟨hx, hb, hml, hown, hts⟩ (qX7_recall l dC dI cy x ad H.size o (xs (i + 1)) (bz (xs (i + 2))) (xs (i + 3)) (xs (i + 4)) s1) (cwV 4 hts gL_law_X7_recall rfl rfl rfl (by decide +kernel) ⟨Nat.le_of_ble_eq_true rfl, Nat.le_of_ble_eq_true rfl⟩) (pV hK (rt_P hP1) (rt_D hD1) hk (q0 := 0) (wx_h (o := o) rfl) rfl) rfl rfl hl.1 rfl (lv_room (Nat.le_of_ble_eq_true rfl)) dL_law_1067 ⟨show _ ≤ 600000 by omega, show _ ≤ 7302250 by omega⟩) hP1 hD1 hS hA (fun r u H locs hw hP hD hS => ?_)
  have hP := va_P_perm (List.perm_append_comm (l₁ := WM cy y bd mm) (l₂ := WX cy x ad u)) hP
  have hD := va_D_perm (List.perm_append_comm (l₁ := WM cy y bd mm) (l₂ := WX cy x ad u)) hD
  refine lv_aload_n hx hb dL_law_1070 rfl (lv_at hl 1 rfl) ?_
  refine ld_s hx hb hl hX hbl hbA hS hi hL (n := 1) (by decide) rfl dL_law_1071 dL_law_1072 dL_law_1073 dL_law_1074 dL_law_1075 ?_
  refine ld_s hx hb hl hX hbl hbA hS hi hL (n := 2) (by decide) rfl dL_law_1076 dL_law_1077 dL_law_1078 dL_law_1079 dL_law_1080 ?_
  refine jn_b hx hb dL_law_1081 dL_law_1084 dL_law_1085 dL_law_1088 ?_
  refine ld_s hx hb hl hX hbl hbA hS hi hL (n := 3) (by decide) rfl dL_law_1089 dL_law_1090 dL_law_1091 dL_law_1092 dL_law_1093 ?_
  refine ld_s hx hb hl hX hbl hbA hS hi hL (n := 4) (by decide) rfl dL_law_1094 dL_law_1095 dL_law_1096 dL_law_1097 dL_law_1098 ?_
  refine cl_gi (wr := WX cy x ad u) (wc := WM cy y bd mm) (va_runV (As := [.int (xs (i + 1)), .int (bz (xs (i + 2))), .int (xs (i + 3)), .int (xs (i + 4))]) (rest := [.int r]) ⟨hx, hb, hml, hown, hts⟩ (qX8_recall l dC dI cy y bd H.size mm (xs (i + 1)) (bz (xs (i + 2))) (xs (i + 3)) (xs (i + 4)) s2) (cwV 4 hts gL_law_X8_recall rfl rfl rfl (by decide +kernel) ⟨Nat.le_of_ble_eq_true rfl, Nat.le_of_ble_eq_true rfl⟩) (pV hK (rt_P hP) (rt_D hD) hk (q0 := 0) rfl rfl) rfl rfl hl.1 rfl (lv_room (Nat.le_of_ble_eq_true rfl)) dL_law_1099 ⟨show _ ≤ 600000 by omega, show _ ≤ 7302250 by omega⟩) hP hD hS hA (fun r2 u2 H locs hw2 hP hD hS => ?_)
  have er : r = r2 := (congrArg Prod.fst hw).trans (e1.trans (congrArg Prod.fst hw2).symm)
  have eu : u = _ := congrArg Prod.snd hw
  have ev : u2 = _ := congrArg Prod.snd hw2
  rw [← eu, ← ev] at e2
  refine lv_icmp_eq (tgt := 1424) hx hb dL_law_1102 (by decide) (fun cq => ?_) (fun cq => absurd er cq)
  refine W.widen (k := cs + 1) (n := sl + 4) (by omega) (by omega) ?_
  exact fin u u2 ad H locs ⟨e2.more (by omega), hP, hD, hS⟩
set_option maxHeartbeats 4000000 in
set_option maxRecDepth 100000 in
theorem lc_sift (X : LX p s m c b L xs dC dI cy) (hi : i + 6 ≤ L) (hl : lv_has ls 4 [(3, .int (nI i)), (2, .ref y), (1, .ref x), (0, .ref b)]) (h : ST s dC dI cy x y k ad bd o mm H locs) (hk4 : k + 4 ≤ 2048) (hc : cs + 1 ≤ 600000) (hsl : sl + 4 ≤ 7302250) (fin : FN p l e s m below meth c cs sl k Q ls b x y dC dI cy bd) : W p l e room_1 s m #[Value.ref b] below meth c H locs cs sl Q (F0 m 1107 ls []) := by
  obtain ⟨hx, hb, hml, hown, hts, hX, hbl, hK, hk, hL⟩ := X
  obtain ⟨h, hP, hD, hS⟩ := h
  have hA : ∀ q : Nat, s.heap.size ≤ q → (fun q : Nat => s.heap.size ≤ q) q := fun _ h => h
  have hbA : ¬ (fun q : Nat => s.heap.size ≤ q) b := Nat.not_le.mpr hbl
  obtain ⟨s1, s2, e1, e2⟩ := ok_sift h (xs (i + 1)) (bz (xs (i + 2))) (lw (xs (i + 3)) (xs (i + 4))) (bz_01 _)
  refine lv_aload_n hx hb dL_law_1107 rfl (lv_at hl 2 rfl) ?_
  refine ld_s hx hb hl hX hbl hbA hS hi hL (n := 1) (by decide) rfl dL_law_1108 dL_law_1109 dL_law_1110 dL_law_1111 dL_law_1112 ?_
  refine ld_s hx hb hl hX hbl hbA hS hi hL (n := 2) (by decide) rfl dL_law_1113 dL_law_1114 dL_law_1115 dL_law_1116 dL_law_1117 ?_
  refine jn_b hx hb dL_law_1118 dL_law_1121 dL_law_1122 dL_law_1125 ?_
  refine ld_s hx hb hl hX hbl hbA hS hi hL (n := 3) (by decide) rfl dL_law_1126 dL_law_1127 dL_law_1128 dL_law_1129 dL_law_1130 ?_
  refine lv_i2l (v := (xs (i + 3)).toInt64) hx hb dL_law_1131 rfl ?_
  refine lv_bipush (v := (32 : Int32)) hx hb dL_law_1132 (by decide) ?_
  refine lv_lshl (v := ((xs (i + 3)).toInt64 <<< ((32 : Int32).toInt64 &&& 63))) hx hb dL_law_1134 rfl ?_
  refine ld_s hx hb hl hX hbl hbA hS hi hL (n := 4) (by decide) rfl dL_law_1135 dL_law_1136 dL_law_1137 dL_law_1138 dL_law_1139 ?_
  refine lv_i2l (v := (xs (i + 4)).toInt64) hx hb dL_law_1140 rfl ?_
  refine lv_ldc2 (v := (4294967295 : Int64)) hx hb hown (hts (.constantLong RL 13 4294967295) mL_13) dL_law_1141 ?_
  refine lv_land hx hb dL_law_1144 ?_
  refine lv_lor hx hb dL_law_1145 ?_
  have hP1 := va_P_perm (List.perm_append_comm (l₁ := WX cy x ad o) (l₂ := WM cy y bd mm)) hP
  have hD1 := va_D_perm (List.perm_append_comm (l₁ := WX cy x ad o) (l₂ := WM cy y bd mm)) hD
  refine cl_gi (wr := WM cy y bd mm) (wc := WX cy x ad o) (va_runV (As := [.int (xs (i + 1)), .int (bz (xs (i + 2))), .long (lw (xs (i + 3)) (xs (i + 4)))]) (rest := []) ⟨hx, hb, hml, hown, hts⟩ (qX7_sift l dC dI cy x ad H.size o (xs (i + 1)) (bz (xs (i + 2))) (lw (xs (i + 3)) (xs (i + 4))) s1) (cwV 3 hts gL_law_X7_sift rfl rfl rfl (by decide +kernel) ⟨Nat.le_of_ble_eq_true rfl, Nat.le_of_ble_eq_true rfl⟩) (pV hK (rt_P hP1) (rt_D hD1) hk (q0 := 0) (wx_h (o := o) rfl) rfl) rfl rfl hl.1 rfl (lv_room (Nat.le_of_ble_eq_true rfl)) dL_law_1146 ⟨show _ ≤ 600000 by omega, show _ ≤ 7302250 by omega⟩) hP1 hD1 hS hA (fun r u H locs hw hP hD hS => ?_)
  have hP := va_P_perm (List.perm_append_comm (l₁ := WM cy y bd mm) (l₂ := WX cy x ad u)) hP
  have hD := va_D_perm (List.perm_append_comm (l₁ := WM cy y bd mm) (l₂ := WX cy x ad u)) hD
  refine lv_aload_n hx hb dL_law_1149 rfl (lv_at hl 1 rfl) ?_
  refine ld_s hx hb hl hX hbl hbA hS hi hL (n := 1) (by decide) rfl dL_law_1150 dL_law_1151 dL_law_1152 dL_law_1153 dL_law_1154 ?_
  refine ld_s hx hb hl hX hbl hbA hS hi hL (n := 2) (by decide) rfl dL_law_1155 dL_law_1156 dL_law_1157 dL_law_1158 dL_law_1159 ?_
  refine jn_b hx hb dL_law_1160 dL_law_1163 dL_law_1164 dL_law_1167 ?_
  refine ld_s hx hb hl hX hbl hbA hS hi hL (n := 3) (by decide) rfl dL_law_1168 dL_law_1169 dL_law_1170 dL_law_1171 dL_law_1172 ?_
  refine lv_i2l (v := (xs (i + 3)).toInt64) hx hb dL_law_1173 rfl ?_
  refine lv_bipush (v := (32 : Int32)) hx hb dL_law_1174 (by decide) ?_
  refine lv_lshl (v := ((xs (i + 3)).toInt64 <<< ((32 : Int32).toInt64 &&& 63))) hx hb dL_law_1176 rfl ?_
  refine ld_s hx hb hl hX hbl hbA hS hi hL (n := 4) (by decide) rfl dL_law_1177 dL_law_1178 dL_law_1179 dL_law_1180 dL_law_1181 ?_
  refine lv_i2l (v := (xs (i + 4)).toInt64) hx hb dL_law_1182 rfl ?_
  refine lv_ldc2 (v := (4294967295 : Int64)) hx hb hown (hts (.constantLong RL 13 4294967295) mL_13) dL_law_1183 ?_
  refine lv_land hx hb dL_law_1186 ?_
  refine lv_lor hx hb dL_law_1187 ?_
  refine cl_gi (wr := WX cy x ad u) (wc := WM cy y bd mm) (va_runV (As := [.int (xs (i + 1)), .int (bz (xs (i + 2))), .long (lw (xs (i + 3)) (xs (i + 4)))]) (rest := [.int r]) ⟨hx, hb, hml, hown, hts⟩ (qX8_sift l dC dI cy y bd H.size mm (xs (i + 1)) (bz (xs (i + 2))) (lw (xs (i + 3)) (xs (i + 4))) s2) (cwV 3 hts gL_law_X8_sift rfl rfl rfl (by decide +kernel) ⟨Nat.le_of_ble_eq_true rfl, Nat.le_of_ble_eq_true rfl⟩) (pV hK (rt_P hP) (rt_D hD) hk (q0 := 0) rfl rfl) rfl rfl hl.1 rfl (lv_room (Nat.le_of_ble_eq_true rfl)) dL_law_1188 ⟨show _ ≤ 600000 by omega, show _ ≤ 7302250 by omega⟩) hP hD hS hA (fun r2 u2 H locs hw2 hP hD hS => ?_)
  have er : r = r2 := (congrArg Prod.fst hw).trans (e1.trans (congrArg Prod.fst hw2).symm)
  have eu : u = _ := congrArg Prod.snd hw
  have ev : u2 = _ := congrArg Prod.snd hw2
  rw [← eu, ← ev] at e2
  refine lv_icmp_eq (tgt := 1424) hx hb dL_law_1191 (by decide) (fun cq => ?_) (fun cq => absurd er cq)
  refine W.widen (k := cs + 1) (n := sl + 4) (by omega) (by omega) ?_
  exact fin u u2 ad H locs ⟨e2.more (by omega), hP, hD, hS⟩
set_option maxHeartbeats 4000000 in
set_option maxRecDepth 100000 in
theorem lc_cast (X : LX p s m c b L xs dC dI cy) (hi : i + 6 ≤ L) (hl : lv_has ls 4 [(3, .int (nI i)), (2, .ref y), (1, .ref x), (0, .ref b)]) (h : ST s dC dI cy x y k ad bd o mm H locs) (hk4 : k + 4 ≤ 2048) (hc : cs + 1 ≤ 600000) (hsl : sl + 4 ≤ 7302250) (fin : FN p l e s m below meth c cs sl k Q ls b x y dC dI cy bd) : W p l e room_1 s m #[Value.ref b] below meth c H locs cs sl Q (F0 m 1196 ls []) := by
  obtain ⟨hx, hb, hml, hown, hts, hX, hbl, hK, hk, hL⟩ := X
  obtain ⟨h, hP, hD, hS⟩ := h
  have hA : ∀ q : Nat, s.heap.size ≤ q → (fun q : Nat => s.heap.size ≤ q) q := fun _ h => h
  have hbA : ¬ (fun q : Nat => s.heap.size ≤ q) b := Nat.not_le.mpr hbl
  obtain ⟨s2, e1, e2⟩ := ok_cast h (xs (i + 1)) (xs (i + 2)) (lw (xs (i + 3)) (xs (i + 4))) 
  refine lv_aload_n hx hb dL_law_1196 rfl (lv_at hl 2 rfl) ?_
  refine ld_s hx hb hl hX hbl hbA hS hi hL (n := 1) (by decide) rfl dL_law_1197 dL_law_1198 dL_law_1199 dL_law_1200 dL_law_1201 ?_
  refine ld_s hx hb hl hX hbl hbA hS hi hL (n := 2) (by decide) rfl dL_law_1202 dL_law_1203 dL_law_1204 dL_law_1205 dL_law_1206 ?_
  refine ld_s hx hb hl hX hbl hbA hS hi hL (n := 3) (by decide) rfl dL_law_1207 dL_law_1208 dL_law_1209 dL_law_1210 dL_law_1211 ?_
  refine lv_i2l (v := (xs (i + 3)).toInt64) hx hb dL_law_1212 rfl ?_
  refine lv_bipush (v := (32 : Int32)) hx hb dL_law_1213 (by decide) ?_
  refine lv_lshl (v := ((xs (i + 3)).toInt64 <<< ((32 : Int32).toInt64 &&& 63))) hx hb dL_law_1215 rfl ?_
  refine ld_s hx hb hl hX hbl hbA hS hi hL (n := 4) (by decide) rfl dL_law_1216 dL_law_1217 dL_law_1218 dL_law_1219 dL_law_1220 ?_
  refine lv_i2l (v := (xs (i + 4)).toInt64) hx hb dL_law_1221 rfl ?_
  refine lv_ldc2 (v := (4294967295 : Int64)) hx hb hown (hts (.constantLong RL 13 4294967295) mL_13) dL_law_1222 ?_
  refine lv_land hx hb dL_law_1225 ?_
  refine lv_lor hx hb dL_law_1226 ?_
  have hP1 := va_P_perm (List.perm_append_comm (l₁ := WX cy x ad o) (l₂ := WM cy y bd mm)) hP
  have hD1 := va_D_perm (List.perm_append_comm (l₁ := WX cy x ad o) (l₂ := WM cy y bd mm)) hD
  refine cl_gi (wr := WM cy y bd mm) (wc := WX cy x ad o) (va_runV (As := [.int (xs (i + 1)), .int (xs (i + 2)), .long (lw (xs (i + 3)) (xs (i + 4)))]) (rest := []) ⟨hx, hb, hml, hown, hts⟩ (qX7_cast l dC dI cy x ad H.size o (xs (i + 1)) (xs (i + 2)) (lw (xs (i + 3)) (xs (i + 4)))) (cwV 3 hts gL_law_X7_cast rfl rfl rfl (by decide +kernel) ⟨Nat.le_of_ble_eq_true rfl, Nat.le_of_ble_eq_true rfl⟩) (pV hK (rt_P hP1) (rt_D hD1) hk (q0 := 0) (wx_h (o := o) rfl) rfl) rfl rfl hl.1 rfl (lv_room (Nat.le_of_ble_eq_true rfl)) dL_law_1227 ⟨show _ ≤ 600000 by omega, show _ ≤ 7302250 by omega⟩) hP1 hD1 hS hA (fun r u H locs hw hP hD hS => ?_)
  have hP := va_P_perm (List.perm_append_comm (l₁ := WM cy y bd mm) (l₂ := WX cy x ad u)) hP
  have hD := va_D_perm (List.perm_append_comm (l₁ := WM cy y bd mm) (l₂ := WX cy x ad u)) hD
  refine lv_aload_n hx hb dL_law_1230 rfl (lv_at hl 1 rfl) ?_
  refine ld_s hx hb hl hX hbl hbA hS hi hL (n := 1) (by decide) rfl dL_law_1231 dL_law_1232 dL_law_1233 dL_law_1234 dL_law_1235 ?_
  refine ld_s hx hb hl hX hbl hbA hS hi hL (n := 2) (by decide) rfl dL_law_1236 dL_law_1237 dL_law_1238 dL_law_1239 dL_law_1240 ?_
  refine ld_s hx hb hl hX hbl hbA hS hi hL (n := 3) (by decide) rfl dL_law_1241 dL_law_1242 dL_law_1243 dL_law_1244 dL_law_1245 ?_
  refine lv_i2l (v := (xs (i + 3)).toInt64) hx hb dL_law_1246 rfl ?_
  refine lv_bipush (v := (32 : Int32)) hx hb dL_law_1247 (by decide) ?_
  refine lv_lshl (v := ((xs (i + 3)).toInt64 <<< ((32 : Int32).toInt64 &&& 63))) hx hb dL_law_1249 rfl ?_
  refine ld_s hx hb hl hX hbl hbA hS hi hL (n := 4) (by decide) rfl dL_law_1250 dL_law_1251 dL_law_1252 dL_law_1253 dL_law_1254 ?_
  refine lv_i2l (v := (xs (i + 4)).toInt64) hx hb dL_law_1255 rfl ?_
  refine lv_ldc2 (v := (4294967295 : Int64)) hx hb hown (hts (.constantLong RL 13 4294967295) mL_13) dL_law_1256 ?_
  refine lv_land hx hb dL_law_1259 ?_
  refine lv_lor hx hb dL_law_1260 ?_
  refine cl_gi (wr := WX cy x ad u) (wc := WM cy y bd mm) (va_runV (As := [.int (xs (i + 1)), .int (xs (i + 2)), .long (lw (xs (i + 3)) (xs (i + 4)))]) (rest := [.int r]) ⟨hx, hb, hml, hown, hts⟩ (qX8_cast l dC dI cy y bd H.size mm (xs (i + 1)) (xs (i + 2)) (lw (xs (i + 3)) (xs (i + 4))) s2) (cwV 3 hts gL_law_X8_cast rfl rfl rfl (by decide +kernel) ⟨Nat.le_of_ble_eq_true rfl, Nat.le_of_ble_eq_true rfl⟩) (pV hK (rt_P hP) (rt_D hD) hk (q0 := 0) rfl rfl) rfl rfl hl.1 rfl (lv_room (Nat.le_of_ble_eq_true rfl)) dL_law_1261 ⟨show _ ≤ 600000 by omega, show _ ≤ 7302250 by omega⟩) hP hD hS hA (fun r2 u2 H locs hw2 hP hD hS => ?_)
  have er : r = r2 := (congrArg Prod.fst hw).trans (e1.trans (congrArg Prod.fst hw2).symm)
  have eu : u = _ := congrArg Prod.snd hw
  have ev : u2 = _ := congrArg Prod.snd hw2
  rw [← eu, ← ev] at e2
  refine lv_icmp_eq (tgt := 1424) hx hb dL_law_1264 (by decide) (fun cq => ?_) (fun cq => absurd er cq)
  refine W.widen (k := cs + 1) (n := sl + 4) (by omega) (by omega) ?_
  exact fin u u2 ad H locs ⟨e2.more (by omega), hP, hD, hS⟩
set_option maxHeartbeats 4000000 in
set_option maxRecDepth 100000 in
theorem lc_left (X : LX p s m c b L xs dC dI cy) (hi : i + 6 ≤ L) (hl : lv_has ls 4 [(3, .int (nI i)), (2, .ref y), (1, .ref x), (0, .ref b)]) (h : ST s dC dI cy x y k ad bd o mm H locs) (hk4 : k + 4 ≤ 2048) (hc : cs + 1 ≤ 600000) (hsl : sl + 4 ≤ 7302250) (fin : FN p l e s m below meth c cs sl k Q ls b x y dC dI cy bd) : W p l e room_1 s m #[Value.ref b] below meth c H locs cs sl Q (F0 m 1269 ls []) := by
  obtain ⟨hx, hb, hml, hown, hts, hX, hbl, hK, hk, hL⟩ := X
  obtain ⟨h, hP, hD, hS⟩ := h
  have hA : ∀ q : Nat, s.heap.size ≤ q → (fun q : Nat => s.heap.size ≤ q) q := fun _ h => h
  have hbA : ¬ (fun q : Nat => s.heap.size ≤ q) b := Nat.not_le.mpr hbl
  obtain ⟨s2, e1, e2⟩ := ok_left h (bz (xs (i + 1))) (lw (xs (i + 2)) (xs (i + 3))) (lw (xs (i + 4)) (xs (i + 5))) (bz_01 _)
  refine lv_aload_n hx hb dL_law_1269 rfl (lv_at hl 2 rfl) ?_
  refine ld_s hx hb hl hX hbl hbA hS hi hL (n := 1) (by decide) rfl dL_law_1270 dL_law_1271 dL_law_1272 dL_law_1273 dL_law_1274 ?_
  refine jn_b hx hb dL_law_1275 dL_law_1278 dL_law_1279 dL_law_1282 ?_
  refine ld_s hx hb hl hX hbl hbA hS hi hL (n := 2) (by decide) rfl dL_law_1283 dL_law_1284 dL_law_1285 dL_law_1286 dL_law_1287 ?_
  refine lv_i2l (v := (xs (i + 2)).toInt64) hx hb dL_law_1288 rfl ?_
  refine lv_bipush (v := (32 : Int32)) hx hb dL_law_1289 (by decide) ?_
  refine lv_lshl (v := ((xs (i + 2)).toInt64 <<< ((32 : Int32).toInt64 &&& 63))) hx hb dL_law_1291 rfl ?_
  refine ld_s hx hb hl hX hbl hbA hS hi hL (n := 3) (by decide) rfl dL_law_1292 dL_law_1293 dL_law_1294 dL_law_1295 dL_law_1296 ?_
  refine lv_i2l (v := (xs (i + 3)).toInt64) hx hb dL_law_1297 rfl ?_
  refine lv_ldc2 (v := (4294967295 : Int64)) hx hb hown (hts (.constantLong RL 13 4294967295) mL_13) dL_law_1298 ?_
  refine lv_land hx hb dL_law_1301 ?_
  refine lv_lor hx hb dL_law_1302 ?_
  refine ld_s hx hb hl hX hbl hbA hS hi hL (n := 4) (by decide) rfl dL_law_1303 dL_law_1304 dL_law_1305 dL_law_1306 dL_law_1307 ?_
  refine lv_i2l (v := (xs (i + 4)).toInt64) hx hb dL_law_1308 rfl ?_
  refine lv_bipush (v := (32 : Int32)) hx hb dL_law_1309 (by decide) ?_
  refine lv_lshl (v := ((xs (i + 4)).toInt64 <<< ((32 : Int32).toInt64 &&& 63))) hx hb dL_law_1311 rfl ?_
  refine ld_s hx hb hl hX hbl hbA hS hi hL (n := 5) (by decide) rfl dL_law_1312 dL_law_1313 dL_law_1314 dL_law_1315 dL_law_1316 ?_
  refine lv_i2l (v := (xs (i + 5)).toInt64) hx hb dL_law_1317 rfl ?_
  refine lv_ldc2 (v := (4294967295 : Int64)) hx hb hown (hts (.constantLong RL 13 4294967295) mL_13) dL_law_1318 ?_
  refine lv_land hx hb dL_law_1321 ?_
  refine lv_lor hx hb dL_law_1322 ?_
  have hP1 := va_P_perm (List.perm_append_comm (l₁ := WX cy x ad o) (l₂ := WM cy y bd mm)) hP
  have hD1 := va_D_perm (List.perm_append_comm (l₁ := WX cy x ad o) (l₂ := WM cy y bd mm)) hD
  refine cl_gi (wr := WM cy y bd mm) (wc := WX cy x ad o) (va_runV (As := [.int (bz (xs (i + 1))), .long (lw (xs (i + 2)) (xs (i + 3))), .long (lw (xs (i + 4)) (xs (i + 5)))]) (rest := []) ⟨hx, hb, hml, hown, hts⟩ (qX7_left l dC dI cy x ad H.size o (bz (xs (i + 1))) (lw (xs (i + 2)) (xs (i + 3))) (lw (xs (i + 4)) (xs (i + 5)))) (cwV 3 hts gL_law_X7_left rfl rfl rfl (by decide +kernel) ⟨Nat.le_of_ble_eq_true rfl, Nat.le_of_ble_eq_true rfl⟩) (pV hK (rt_P hP1) (rt_D hD1) hk (q0 := 0) (wx_h (o := o) rfl) rfl) rfl rfl hl.1 rfl (lv_room (Nat.le_of_ble_eq_true rfl)) dL_law_1323 ⟨show _ ≤ 600000 by omega, show _ ≤ 7302250 by omega⟩) hP1 hD1 hS hA (fun r u H locs hw hP hD hS => ?_)
  have hP := va_P_perm (List.perm_append_comm (l₁ := WM cy y bd mm) (l₂ := WX cy x ad u)) hP
  have hD := va_D_perm (List.perm_append_comm (l₁ := WM cy y bd mm) (l₂ := WX cy x ad u)) hD
  refine lv_aload_n hx hb dL_law_1326 rfl (lv_at hl 1 rfl) ?_
  refine ld_s hx hb hl hX hbl hbA hS hi hL (n := 1) (by decide) rfl dL_law_1327 dL_law_1328 dL_law_1329 dL_law_1330 dL_law_1331 ?_
  refine jn_b hx hb dL_law_1332 dL_law_1335 dL_law_1336 dL_law_1339 ?_
  refine ld_s hx hb hl hX hbl hbA hS hi hL (n := 2) (by decide) rfl dL_law_1340 dL_law_1341 dL_law_1342 dL_law_1343 dL_law_1344 ?_
  refine lv_i2l (v := (xs (i + 2)).toInt64) hx hb dL_law_1345 rfl ?_
  refine lv_bipush (v := (32 : Int32)) hx hb dL_law_1346 (by decide) ?_
  refine lv_lshl (v := ((xs (i + 2)).toInt64 <<< ((32 : Int32).toInt64 &&& 63))) hx hb dL_law_1348 rfl ?_
  refine ld_s hx hb hl hX hbl hbA hS hi hL (n := 3) (by decide) rfl dL_law_1349 dL_law_1350 dL_law_1351 dL_law_1352 dL_law_1353 ?_
  refine lv_i2l (v := (xs (i + 3)).toInt64) hx hb dL_law_1354 rfl ?_
  refine lv_ldc2 (v := (4294967295 : Int64)) hx hb hown (hts (.constantLong RL 13 4294967295) mL_13) dL_law_1355 ?_
  refine lv_land hx hb dL_law_1358 ?_
  refine lv_lor hx hb dL_law_1359 ?_
  refine ld_s hx hb hl hX hbl hbA hS hi hL (n := 4) (by decide) rfl dL_law_1360 dL_law_1361 dL_law_1362 dL_law_1363 dL_law_1364 ?_
  refine lv_i2l (v := (xs (i + 4)).toInt64) hx hb dL_law_1365 rfl ?_
  refine lv_bipush (v := (32 : Int32)) hx hb dL_law_1366 (by decide) ?_
  refine lv_lshl (v := ((xs (i + 4)).toInt64 <<< ((32 : Int32).toInt64 &&& 63))) hx hb dL_law_1368 rfl ?_
  refine ld_s hx hb hl hX hbl hbA hS hi hL (n := 5) (by decide) rfl dL_law_1369 dL_law_1370 dL_law_1371 dL_law_1372 dL_law_1373 ?_
  refine lv_i2l (v := (xs (i + 5)).toInt64) hx hb dL_law_1374 rfl ?_
  refine lv_ldc2 (v := (4294967295 : Int64)) hx hb hown (hts (.constantLong RL 13 4294967295) mL_13) dL_law_1375 ?_
  refine lv_land hx hb dL_law_1378 ?_
  refine lv_lor hx hb dL_law_1379 ?_
  refine cl_gi (wr := WX cy x ad u) (wc := WM cy y bd mm) (va_runV (As := [.int (bz (xs (i + 1))), .long (lw (xs (i + 2)) (xs (i + 3))), .long (lw (xs (i + 4)) (xs (i + 5)))]) (rest := [.int r]) ⟨hx, hb, hml, hown, hts⟩ (qX8_left l dC dI cy y bd H.size mm (bz (xs (i + 1))) (lw (xs (i + 2)) (xs (i + 3))) (lw (xs (i + 4)) (xs (i + 5))) s2) (cwV 3 hts gL_law_X8_left rfl rfl rfl (by decide +kernel) ⟨Nat.le_of_ble_eq_true rfl, Nat.le_of_ble_eq_true rfl⟩) (pV hK (rt_P hP) (rt_D hD) hk (q0 := 0) rfl rfl) rfl rfl hl.1 rfl (lv_room (Nat.le_of_ble_eq_true rfl)) dL_law_1380 ⟨show _ ≤ 600000 by omega, show _ ≤ 7302250 by omega⟩) hP hD hS hA (fun r2 u2 H locs hw2 hP hD hS => ?_)
  have er : r = r2 := (congrArg Prod.fst hw).trans (e1.trans (congrArg Prod.fst hw2).symm)
  have eu : u = _ := congrArg Prod.snd hw
  have ev : u2 = _ := congrArg Prod.snd hw2
  rw [← eu, ← ev] at e2
  refine lv_icmp_eq (tgt := 1424) hx hb dL_law_1383 (by decide) (fun cq => ?_) (fun cq => absurd er cq)
  refine W.widen (k := cs + 1) (n := sl + 4) (by omega) (by omega) ?_
  exact fin u u2 ad H locs ⟨e2.more (by omega), hP, hD, hS⟩
set_option maxHeartbeats 4000000 in
set_option maxRecDepth 100000 in
theorem lc_failed (X : LX p s m c b L xs dC dI cy) (hi : i + 6 ≤ L) (hl : lv_has ls 4 [(3, .int (nI i)), (2, .ref y), (1, .ref x), (0, .ref b)]) (h : ST s dC dI cy x y k ad bd o mm H locs) (hk4 : k + 4 ≤ 2048) (hc : cs + 1 ≤ 600000) (hsl : sl + 4 ≤ 7302250) (fin : FN p l e s m below meth c cs sl k Q ls b x y dC dI cy bd) : W p l e room_1 s m #[Value.ref b] below meth c H locs cs sl Q (F0 m 1388 ls []) := by
  obtain ⟨hx, hb, hml, hown, hts, hX, hbl, hK, hk, hL⟩ := X
  obtain ⟨h, hP, hD, hS⟩ := h
  have hA : ∀ q : Nat, s.heap.size ≤ q → (fun q : Nat => s.heap.size ≤ q) q := fun _ h => h
  have hbA : ¬ (fun q : Nat => s.heap.size ≤ q) b := Nat.not_le.mpr hbl
  have e1 := ok_failed h
  refine lv_aload_n hx hb dL_law_1388 rfl (lv_at hl 2 rfl) ?_
  have hP1 := va_P_perm (List.perm_append_comm (l₁ := WX cy x ad o) (l₂ := WM cy y bd mm)) hP
  have hD1 := va_D_perm (List.perm_append_comm (l₁ := WX cy x ad o) (l₂ := WM cy y bd mm)) hD
  refine vp_callSi (W.runV (As := []) (rest := []) ⟨hx, hb, hml, hown, hts⟩ (qX7_failed l dC dI cy x ad H.size o ) (cwV 0 hts gL_law_X7_failed rfl rfl rfl (by decide +kernel) ⟨Nat.le_of_ble_eq_true rfl, Nat.le_of_ble_eq_true rfl⟩) (pV hK (rt_P hP1) (rt_D hD1) hk (q0 := 0) (wx_h (o := o) rfl) rfl) rfl rfl hl.1 rfl (lv_room (Nat.le_of_ble_eq_true rfl)) dL_law_1389 ⟨show _ ≤ 600000 by omega, show _ ≤ 7302250 by omega⟩) (fun r hr1 => ?_)
  refine lv_aload_n hx hb dL_law_1392 rfl (lv_at hl 1 rfl) ?_
  refine vp_callSi (W.runV (As := []) (rest := [.int r]) ⟨hx, hb, hml, hown, hts⟩ (qX8_failed l dC dI cy y bd H.size mm ) (cwV 0 hts gL_law_X8_failed rfl rfl rfl (by decide +kernel) ⟨Nat.le_of_ble_eq_true rfl, Nat.le_of_ble_eq_true rfl⟩) (pV hK (rt_P hP) (rt_D hD) hk (q0 := 0) rfl rfl) rfl rfl hl.1 rfl (lv_room (Nat.le_of_ble_eq_true rfl)) dL_law_1393 ⟨show _ ≤ 600000 by omega, show _ ≤ 7302250 by omega⟩) (fun r2 hr2 => ?_)
  have er : r = r2 := hr1.trans (e1.trans hr2.symm)
  refine lv_icmp_eq (tgt := 1424) hx hb dL_law_1396 (by decide) (fun cq => ?_) (fun cq => absurd er cq)
  refine W.widen (k := cs + 1) (n := sl + 4) (by omega) (by omega) ?_
  exact fin o mm ad H locs ⟨h.more (by omega), hP, hD, hS⟩
set_option maxHeartbeats 4000000 in
set_option maxRecDepth 100000 in
theorem lc_about (X : LX p s m c b L xs dC dI cy) (hi : i + 6 ≤ L) (hl : lv_has ls 4 [(3, .int (nI i)), (2, .ref y), (1, .ref x), (0, .ref b)]) (h : ST s dC dI cy x y k ad bd o mm H locs) (hk4 : k + 4 ≤ 2048) (hc : cs + 1 ≤ 600000) (hsl : sl + 4 ≤ 7302250) (fin : FN p l e s m below meth c cs sl k Q ls b x y dC dI cy bd) : W p l e room_1 s m #[Value.ref b] below meth c H locs cs sl Q (F0 m 1401 ls []) := by
  obtain ⟨hx, hb, hml, hown, hts, hX, hbl, hK, hk, hL⟩ := X
  obtain ⟨h, hP, hD, hS⟩ := h
  have hA : ∀ q : Nat, s.heap.size ≤ q → (fun q : Nat => s.heap.size ≤ q) q := fun _ h => h
  have hbA : ¬ (fun q : Nat => s.heap.size ≤ q) b := Nat.not_le.mpr hbl
  obtain ⟨s1, s2, e1⟩ := ok_about h (xs (i + 1)) 
  refine lv_aload_n hx hb dL_law_1401 rfl (lv_at hl 2 rfl) ?_
  refine ld_s hx hb hl hX hbl hbA hS hi hL (n := 1) (by decide) rfl dL_law_1402 dL_law_1403 dL_law_1404 dL_law_1405 dL_law_1406 ?_
  have hP1 := va_P_perm (List.perm_append_comm (l₁ := WX cy x ad o) (l₂ := WM cy y bd mm)) hP
  have hD1 := va_D_perm (List.perm_append_comm (l₁ := WX cy x ad o) (l₂ := WM cy y bd mm)) hD
  refine vp_callSi (W.runV (As := [.int (xs (i + 1))]) (rest := []) ⟨hx, hb, hml, hown, hts⟩ (qX7_about l dC dI cy x ad H.size o (xs (i + 1)) s1) (cwV 1 hts gL_law_X7_about rfl rfl rfl (by decide +kernel) ⟨Nat.le_of_ble_eq_true rfl, Nat.le_of_ble_eq_true rfl⟩) (pV hK (rt_P hP1) (rt_D hD1) hk (q0 := 0) (wx_h (o := o) rfl) rfl) rfl rfl hl.1 rfl (lv_room (Nat.le_of_ble_eq_true rfl)) dL_law_1407 ⟨show _ ≤ 600000 by omega, show _ ≤ 7302250 by omega⟩) (fun r hr1 => ?_)
  refine lv_aload_n hx hb dL_law_1410 rfl (lv_at hl 1 rfl) ?_
  refine ld_s hx hb hl hX hbl hbA hS hi hL (n := 1) (by decide) rfl dL_law_1411 dL_law_1412 dL_law_1413 dL_law_1414 dL_law_1415 ?_
  refine vp_callSi (W.runV (As := [.int (xs (i + 1))]) (rest := [.int r]) ⟨hx, hb, hml, hown, hts⟩ (qX8_about l dC dI cy y bd H.size mm (xs (i + 1)) s2) (cwV 1 hts gL_law_X8_about rfl rfl rfl (by decide +kernel) ⟨Nat.le_of_ble_eq_true rfl, Nat.le_of_ble_eq_true rfl⟩) (pV hK (rt_P hP) (rt_D hD) hk (q0 := 0) rfl rfl) rfl rfl hl.1 rfl (lv_room (Nat.le_of_ble_eq_true rfl)) dL_law_1416 ⟨show _ ≤ 600000 by omega, show _ ≤ 7302250 by omega⟩) (fun r2 hr2 => ?_)
  have er : r = r2 := hr1.trans (e1.trans hr2.symm)
  refine lv_icmp_eq (tgt := 1424) hx hb dL_law_1419 (by decide) (fun cq => ?_) (fun cq => absurd er cq)
  refine W.widen (k := cs + 1) (n := sl + 4) (by omega) (by omega) ?_
  exact fin o mm ad H locs ⟨h.more (by omega), hP, hD, hS⟩
end LC2
