section
-- ===== PART A: goes FIRST, ahead of the names: the tables' words, and 'selects' of the private methods out of them =====
/-- a private method of a class that the tables say can be made, by its rows of tables_1 -/
def lw_okq (q : MethodName × Nat) : Prop := (q.1.cls ≠ "java/lang/invoke/MethodHandle" ∧ q.1.cls ≠ "java/lang/invoke/VarHandle") ∧ Cond.instantiable q.1.cls q.2 ∈ tables_1 ∧ Cond.privateMethod q.1 ∈ tables_1 ∧ Cond.instanceMethod q.1 ∈ tables_1
theorem lw_p0 : lw_okq (⟨"OrreryDials", "dialAt", "(I)LOrreryDials$Dial;"⟩, 10) := ⟨⟨by decide +kernel, by decide +kernel⟩, List.mem_of_getElem? (i := 16) (by decide +kernel), List.mem_of_getElem? (i := 128) (by decide +kernel), List.mem_of_getElem? (i := 129) (by decide +kernel)⟩
theorem lw_p1 : lw_okq (⟨"OrreryDials", "done", "(I)I"⟩, 10) := ⟨⟨by decide +kernel, by decide +kernel⟩, List.mem_of_getElem? (i := 16) (by decide +kernel), List.mem_of_getElem? (i := 194) (by decide +kernel), List.mem_of_getElem? (i := 195) (by decide +kernel)⟩
theorem lw_p2 : lw_okq (⟨"OrreryDials", "failWith", "(I)I"⟩, 10) := ⟨⟨by decide +kernel, by decide +kernel⟩, List.mem_of_getElem? (i := 16) (by decide +kernel), List.mem_of_getElem? (i := 198) (by decide +kernel), List.mem_of_getElem? (i := 199) (by decide +kernel)⟩
theorem lw_p3 : lw_okq (⟨"OrreryDials", "driveAt", "(I)LOrreryDials$Drive;"⟩, 10) := ⟨⟨by decide +kernel, by decide +kernel⟩, List.mem_of_getElem? (i := 16) (by decide +kernel), List.mem_of_getElem? (i := 285) (by decide +kernel), List.mem_of_getElem? (i := 286) (by decide +kernel)⟩
theorem lw_p4 : lw_okq (⟨"OrreryDials", "rowAt", "(IZ)LOrreryDials$Row;"⟩, 10) := ⟨⟨by decide +kernel, by decide +kernel⟩, List.mem_of_getElem? (i := 16) (by decide +kernel), List.mem_of_getElem? (i := 364) (by decide +kernel), List.mem_of_getElem? (i := 365) (by decide +kernel)⟩
theorem lw_p5 : lw_okq (⟨"OrreryDialsModel", "isDial", "(I)Z"⟩, 20) := ⟨⟨by decide +kernel, by decide +kernel⟩, List.mem_of_getElem? (i := 450) (by decide +kernel), List.mem_of_getElem? (i := 551) (by decide +kernel), List.mem_of_getElem? (i := 552) (by decide +kernel)⟩
theorem lw_p6 : lw_okq (⟨"OrreryDialsModel", "goes", "(IJ)Z"⟩, 20) := ⟨⟨by decide +kernel, by decide +kernel⟩, List.mem_of_getElem? (i := 450) (by decide +kernel), List.mem_of_getElem? (i := 558) (by decide +kernel), List.mem_of_getElem? (i := 559) (by decide +kernel)⟩
theorem lw_p7 : lw_okq (⟨"OrreryDialsModel", "goesDouble", "(ID)Z"⟩, 20) := ⟨⟨by decide +kernel, by decide +kernel⟩, List.mem_of_getElem? (i := 450) (by decide +kernel), List.mem_of_getElem? (i := 562) (by decide +kernel), List.mem_of_getElem? (i := 563) (by decide +kernel)⟩
theorem lw_p8 : lw_okq (⟨"OrreryDialsModel", "goesFloat", "(IF)Z"⟩, 20) := ⟨⟨by decide +kernel, by decide +kernel⟩, List.mem_of_getElem? (i := 450) (by decide +kernel), List.mem_of_getElem? (i := 571) (by decide +kernel), List.mem_of_getElem? (i := 572) (by decide +kernel)⟩
theorem lw_p9 : lw_okq (⟨"OrreryDialsModel", "done", "(I)I"⟩, 20) := ⟨⟨by decide +kernel, by decide +kernel⟩, List.mem_of_getElem? (i := 450) (by decide +kernel), List.mem_of_getElem? (i := 580) (by decide +kernel), List.mem_of_getElem? (i := 581) (by decide +kernel)⟩
theorem lw_p10 : lw_okq (⟨"OrreryDialsModel", "fails", "(I)I"⟩, 20) := ⟨⟨by decide +kernel, by decide +kernel⟩, List.mem_of_getElem? (i := 450) (by decide +kernel), List.mem_of_getElem? (i := 584) (by decide +kernel), List.mem_of_getElem? (i := 585) (by decide +kernel)⟩
theorem lw_p11 : lw_okq (⟨"OrreryDialsModel", "isDrive", "(I)Z"⟩, 20) := ⟨⟨by decide +kernel, by decide +kernel⟩, List.mem_of_getElem? (i := 450) (by decide +kernel), List.mem_of_getElem? (i := 638) (by decide +kernel), List.mem_of_getElem? (i := 639) (by decide +kernel)⟩
theorem lw_p12 : lw_okq (⟨"OrreryDialsModel", "pullCause", "(II)I"⟩, 20) := ⟨⟨by decide +kernel, by decide +kernel⟩, List.mem_of_getElem? (i := 450) (by decide +kernel), List.mem_of_getElem? (i := 646) (by decide +kernel), List.mem_of_getElem? (i := 647) (by decide +kernel)⟩
theorem lw_p13 : lw_okq (⟨"OrreryDialsModel", "hauls", "(II)Z"⟩, 20) := ⟨⟨by decide +kernel, by decide +kernel⟩, List.mem_of_getElem? (i := 450) (by decide +kernel), List.mem_of_getElem? (i := 650) (by decide +kernel), List.mem_of_getElem? (i := 651) (by decide +kernel)⟩
theorem lw_p14 : lw_okq (⟨"OrreryDialsModel", "cause", "(II)I"⟩, 20) := ⟨⟨by decide +kernel, by decide +kernel⟩, List.mem_of_getElem? (i := 450) (by decide +kernel), List.mem_of_getElem? (i := 697) (by decide +kernel), List.mem_of_getElem? (i := 698) (by decide +kernel)⟩
def lw_privs_1 : List (MethodName × Nat) := [(⟨"OrreryDials", "dialAt", "(I)LOrreryDials$Dial;"⟩, 10), (⟨"OrreryDials", "done", "(I)I"⟩, 10), (⟨"OrreryDials", "failWith", "(I)I"⟩, 10), (⟨"OrreryDials", "driveAt", "(I)LOrreryDials$Drive;"⟩, 10), (⟨"OrreryDials", "rowAt", "(IZ)LOrreryDials$Row;"⟩, 10), (⟨"OrreryDialsModel", "isDial", "(I)Z"⟩, 20), (⟨"OrreryDialsModel", "goes", "(IJ)Z"⟩, 20), (⟨"OrreryDialsModel", "goesDouble", "(ID)Z"⟩, 20), (⟨"OrreryDialsModel", "goesFloat", "(IF)Z"⟩, 20), (⟨"OrreryDialsModel", "done", "(I)I"⟩, 20), (⟨"OrreryDialsModel", "fails", "(I)I"⟩, 20), (⟨"OrreryDialsModel", "isDrive", "(I)Z"⟩, 20), (⟨"OrreryDialsModel", "pullCause", "(II)I"⟩, 20), (⟨"OrreryDialsModel", "hauls", "(II)Z"⟩, 20), (⟨"OrreryDialsModel", "cause", "(II)I"⟩, 20)]
theorem lw_r1 : ∀ q ∈ lw_privs_1, lw_okq q := List.forall_mem_cons.mpr ⟨lw_p0, List.forall_mem_cons.mpr ⟨lw_p1, List.forall_mem_cons.mpr ⟨lw_p2, List.forall_mem_cons.mpr ⟨lw_p3, List.forall_mem_cons.mpr ⟨lw_p4, List.forall_mem_cons.mpr ⟨lw_p5, List.forall_mem_cons.mpr ⟨lw_p6, List.forall_mem_cons.mpr ⟨lw_p7, List.forall_mem_cons.mpr ⟨lw_p8, List.forall_mem_cons.mpr ⟨lw_p9, List.forall_mem_cons.mpr ⟨lw_p10, List.forall_mem_cons.mpr ⟨lw_p11, List.forall_mem_cons.mpr ⟨lw_p12, List.forall_mem_cons.mpr ⟨lw_p13, List.forall_mem_cons.mpr ⟨lw_p14, fun _ h => absurd h List.not_mem_nil⟩⟩⟩⟩⟩⟩⟩⟩⟩⟩⟩⟩⟩⟩⟩
def lw_privs : List (MethodName × Nat) := lw_privs_1
def lw_tbl : List Cond := k2_sels lw_privs ++ tables_1
theorem lw_privs_ok : ∀ q ∈ lw_privs, lw_okq q := lw_r1
/-! ===== BEGIN words of one list among another's, by their places ===== -/
theorem goodIn_r {big : List Cond} (ws : List Cond) (ps : List Nat) (hp : ws = ps.filterMap (fun i => big[i]?)) (h : ws.all goodWord = true) : GoodIn big ws := by
  intro w hw
  have h1 := List.all_eq_true.mp h w hw
  rw [hp] at hw
  obtain ⟨i, -, hi⟩ := List.mem_filterMap.mp hw
  have hm : w ∈ big := by first | exact List.mem_of_getElem? hi | exact List.getElem?_mem hi
  exact ⟨hm, good_of_word h1⟩
theorem goodIn_app {big a b : List Cond} (ha : GoodIn big a) (hb : GoodIn big b) : GoodIn big (a ++ b) := fun w h => (List.mem_append.mp h).elim (ha w) (hb w)
theorem goodIn_ca {big a b : List Cond} {c : Cond} (ha : GoodIn big (c :: a)) (hb : GoodIn big b) : GoodIn big (c :: (a ++ b)) := fun w h => (List.mem_cons.mp h).elim (fun e => ha w (List.mem_cons.mpr (Or.inl e))) (fun h => (List.mem_append.mp h).elim (fun h => ha w (List.mem_cons.mpr (Or.inr h))) (hb w))
theorem goodIn_sub {big ws : List Cond} (hm : ∀ w ∈ ws, w ∈ big) (h : ws.all goodWord = true) : GoodIn big ws := fun w hw => ⟨hm w hw, good_of_word (List.all_eq_true.mp h w hw)⟩
/-! ===== END ===== -/

/-! ===== BEGIN printed: names, fields, word lists, decode rows ===== -/
def RX0 : String := "OrreryDials$Crank"
def TX0 : u_T := fun k => match k with
  | 0 => ("OrreryDials$Drive", "number", "I", true)
  | 1 => ("OrreryDials$Drive", "pull", "J", true)
  | 2 => ("OrreryDials$Drive", "pullCount", "I", false)
  | _ => ("OrreryDials$Crank", "gear", "I", false)
def tyX0 : Nat → FieldType := fun k => match k with
  | 0 => .int
  | 1 => .long
  | 2 => .int
  | _ => .int
abbrev wsX00 : List Cond := u_ws RX0 TX0 4
theorem nmX0 : ∀ a, a < 4 → ∀ b, b < 4 → a ≠ b → (TX0 a).2.1 ≠ (TX0 b).2.1 := by decide +kernel
theorem tyX0_ok : ∀ k, k < 4 → parseFieldDescriptor (TX0 k).2.2.1 = some (tyX0 k) := by decide +kernel
abbrev cX0_init : ByteArray := prog_2_method_1_code
def yX0_init : MethodName := ⟨RX0, "<init>", "(IJ)V"⟩
abbrev cX0_forceAt : ByteArray := prog_2_method_2_code
def yX0_forceAt : MethodName := ⟨RX0, "forceAt", "(J)J"⟩
def RX1 : String := "OrreryDials$Dial"
def TX1 : u_T := fun k => match k with
  | 0 => ("OrreryDials$Dial", "fine", "Z", true)
  | 1 => ("OrreryDials$Dial", "rim", "J", true)
  | 2 => ("OrreryDials$Dial", "place", "J", false)
  | _ => ("OrreryDials$Dial", "laps", "J", false)
def tyX1 : Nat → FieldType := fun k => match k with
  | 0 => .boolean
  | 1 => .long
  | 2 => .long
  | _ => .long
abbrev wsX10 : List Cond := u_ws RX1 TX1 4
theorem nmX1 : ∀ a, a < 4 → ∀ b, b < 4 → a ≠ b → (TX1 a).2.1 ≠ (TX1 b).2.1 := by decide +kernel
theorem tyX1_ok : ∀ k, k < 4 → parseFieldDescriptor (TX1 k).2.2.1 = some (tyX1 k) := by decide +kernel
abbrev cX1_init : ByteArray := prog_3_method_1_code
def yX1_init : MethodName := ⟨RX1, "<init>", "(ZJ)V"⟩
abbrev cX1_turnBy : ByteArray := prog_3_method_2_code
def yX1_turnBy : MethodName := ⟨RX1, "turnBy", "(J)Z"⟩
def RX2 : String := "OrreryDials$Drive"
def TX2 : u_T := fun k => match k with
  | _ => ("", "", "", false)
def tyX2 : Nat → FieldType := fun k => match k with
  | _ => .int
abbrev wsX20 : List Cond := u_ws RX2 TX2 0
theorem nmX2 : ∀ a, a < 0 → ∀ b, b < 0 → a ≠ b → (TX2 a).2.1 ≠ (TX2 b).2.1 := by decide +kernel
theorem tyX2_ok : ∀ k, k < 0 → parseFieldDescriptor (TX2 k).2.2.1 = some (tyX2 k) := by decide +kernel
abbrev cX2_init : ByteArray := prog_4_method_1_code
def yX2_init : MethodName := ⟨RX2, "<init>", "(IJ)V"⟩
abbrev cX2_pullAt : ByteArray := prog_4_method_3_code
def yX2_pullAt : MethodName := ⟨RX2, "pullAt", "(LOrreryDials$Dial;)Z"⟩
def RX3 : String := "OrreryDials$Flywheel"
def TX3 : u_T := fun k => match k with
  | 0 => ("OrreryDials$Crank", "gear", "I", false)
  | 1 => ("OrreryDials$Drive", "number", "I", true)
  | 2 => ("OrreryDials$Drive", "pull", "J", true)
  | _ => ("OrreryDials$Drive", "pullCount", "I", false)
def tyX3 : Nat → FieldType := fun k => match k with
  | 0 => .int
  | 1 => .int
  | 2 => .long
  | _ => .int
abbrev wsX30 : List Cond := u_ws RX3 TX3 4
theorem nmX3 : ∀ a, a < 4 → ∀ b, b < 4 → a ≠ b → (TX3 a).2.1 ≠ (TX3 b).2.1 := by decide +kernel
theorem tyX3_ok : ∀ k, k < 4 → parseFieldDescriptor (TX3 k).2.2.1 = some (tyX3 k) := by decide +kernel
abbrev cX3_init : ByteArray := prog_5_method_1_code
def yX3_init : MethodName := ⟨RX3, "<init>", "(IJ)V"⟩
abbrev cX3_forceAt : ByteArray := prog_5_method_2_code
def yX3_forceAt : MethodName := ⟨RX3, "forceAt", "(J)J"⟩
def RX4 : String := "OrreryDials$Reals"
def TX4 : u_T := fun k => match k with
  | _ => ("", "", "", false)
def tyX4 : Nat → FieldType := fun k => match k with
  | _ => .int
abbrev wsX40 : List Cond := u_ws RX4 TX4 0
theorem nmX4 : ∀ a, a < 0 → ∀ b, b < 0 → a ≠ b → (TX4 a).2.1 ≠ (TX4 b).2.1 := by decide +kernel
theorem tyX4_ok : ∀ k, k < 0 → parseFieldDescriptor (TX4 k).2.2.1 = some (tyX4 k) := by decide +kernel
abbrev cX4_told : ByteArray := prog_6_method_2_code
def yX4_told : MethodName := ⟨RX4, "told", "(ZJ)J"⟩
abbrev cX4_isNumber : ByteArray := prog_6_method_3_code
def yX4_isNumber : MethodName := ⟨RX4, "isNumber", "(ZJ)Z"⟩
abbrev cX4_isFit : ByteArray := prog_6_method_4_code
def yX4_isFit : MethodName := ⟨RX4, "isFit", "(ZJ)Z"⟩
abbrev cX4_isZero : ByteArray := prog_6_method_5_code
def yX4_isZero : MethodName := ⟨RX4, "isZero", "(ZJ)Z"⟩
abbrev cX4_negated : ByteArray := prog_6_method_6_code
def yX4_negated : MethodName := ⟨RX4, "negated", "(J)J"⟩
abbrev cX4_sum : ByteArray := prog_6_method_7_code
def yX4_sum : MethodName := ⟨RX4, "sum", "(ZJJ)J"⟩
abbrev cX4_quotient : ByteArray := prog_6_method_8_code
def yX4_quotient : MethodName := ⟨RX4, "quotient", "(ZJJ)J"⟩
abbrev cX4_timesInt : ByteArray := prog_6_method_9_code
def yX4_timesInt : MethodName := ⟨RX4, "timesInt", "(JI)J"⟩
abbrev cX4_leftOver : ByteArray := prog_6_method_10_code
def yX4_leftOver : MethodName := ⟨RX4, "leftOver", "(ZJJ)J"⟩
abbrev cX4_ofLong : ByteArray := prog_6_method_11_code
def yX4_ofLong : MethodName := ⟨RX4, "ofLong", "(ZJ)J"⟩
abbrev cX4_ofReal : ByteArray := prog_6_method_12_code
def yX4_ofReal : MethodName := ⟨RX4, "ofReal", "(ZZJ)J"⟩
abbrev cX4_cutToLong : ByteArray := prog_6_method_13_code
def yX4_cutToLong : MethodName := ⟨RX4, "cutToLong", "(ZJ)J"⟩
abbrev cX4_nearest : ByteArray := prog_6_method_14_code
def yX4_nearest : MethodName := ⟨RX4, "nearest", "(ZZJI)J"⟩
abbrev cX4_rounded : ByteArray := prog_6_method_15_code
def yX4_rounded : MethodName := ⟨RX4, "rounded", "(JI)J"⟩
abbrev cX4_shiftedOut : ByteArray := prog_6_method_16_code
def yX4_shiftedOut : MethodName := ⟨RX4, "shiftedOut", "(JI)J"⟩
abbrev cX4_withMore : ByteArray := prog_6_method_17_code
def yX4_withMore : MethodName := ⟨RX4, "withMore", "(JJ)J"⟩
abbrev cX4_mantissa : ByteArray := prog_6_method_18_code
def yX4_mantissa : MethodName := ⟨RX4, "mantissa", "(ZJ)J"⟩
abbrev cX4_exponent : ByteArray := prog_6_method_19_code
def yX4_exponent : MethodName := ⟨RX4, "exponent", "(ZJ)I"⟩
abbrev cX4_sizeOf : ByteArray := prog_6_method_20_code
def yX4_sizeOf : MethodName := ⟨RX4, "sizeOf", "(ZJ)J"⟩
abbrev cX4_signed : ByteArray := prog_6_method_21_code
def yX4_signed : MethodName := ⟨RX4, "signed", "(ZZJ)J"⟩
abbrev cX4_endless : ByteArray := prog_6_method_22_code
def yX4_endless : MethodName := ⟨RX4, "endless", "(Z)J"⟩
abbrev cX4_width : ByteArray := prog_6_method_23_code
def yX4_width : MethodName := ⟨RX4, "width", "(Z)I"⟩
abbrev cX4_leastExponent : ByteArray := prog_6_method_24_code
def yX4_leastExponent : MethodName := ⟨RX4, "leastExponent", "(Z)I"⟩
abbrev cX4_lengthOf : ByteArray := prog_6_method_25_code
def yX4_lengthOf : MethodName := ⟨RX4, "lengthOf", "(J)I"⟩
def RX5 : String := "OrreryDials$Row"
def TX5 : u_T := fun k => match k with
  | 0 => ("OrreryDials$Row", "places", "[J", true)
  | _ => ("OrreryDials$Row", "size", "I", false)
def tyX5 : Nat → FieldType := fun k => match k with
  | 0 => .array .long
  | _ => .int
abbrev wsX50 : List Cond := u_ws RX5 TX5 2
theorem nmX5 : ∀ a, a < 2 → ∀ b, b < 2 → a ≠ b → (TX5 a).2.1 ≠ (TX5 b).2.1 := by decide +kernel
theorem tyX5_ok : ∀ k, k < 2 → parseFieldDescriptor (TX5 k).2.2.1 = some (tyX5 k) := by decide +kernel
abbrev cX5_init : ByteArray := prog_7_method_1_code
def yX5_init : MethodName := ⟨RX5, "<init>", "()V"⟩
abbrev cX5_renew : ByteArray := prog_7_method_2_code
def yX5_renew : MethodName := ⟨RX5, "renew", "(I)V"⟩
abbrev cX5_isMissing : ByteArray := prog_7_method_3_code
def yX5_isMissing : MethodName := ⟨RX5, "isMissing", "()Z"⟩
abbrev cX5_failureAt : ByteArray := prog_7_method_4_code
def yX5_failureAt : MethodName := ⟨RX5, "failureAt", "(I)I"⟩
def RX6 : String := "OrreryDials$Spring"
def TX6 : u_T := fun k => match k with
  | 0 => ("OrreryDials$Drive", "number", "I", true)
  | 1 => ("OrreryDials$Drive", "pull", "J", true)
  | _ => ("OrreryDials$Drive", "pullCount", "I", false)
def tyX6 : Nat → FieldType := fun k => match k with
  | 0 => .int
  | 1 => .long
  | _ => .int
abbrev wsX60 : List Cond := u_ws RX6 TX6 3
theorem nmX6 : ∀ a, a < 3 → ∀ b, b < 3 → a ≠ b → (TX6 a).2.1 ≠ (TX6 b).2.1 := by decide +kernel
theorem tyX6_ok : ∀ k, k < 3 → parseFieldDescriptor (TX6 k).2.2.1 = some (tyX6 k) := by decide +kernel
abbrev cX6_init : ByteArray := prog_8_method_1_code
def yX6_init : MethodName := ⟨RX6, "<init>", "(IJ)V"⟩
abbrev cX6_forceAt : ByteArray := prog_8_method_2_code
def yX6_forceAt : MethodName := ⟨RX6, "forceAt", "(J)J"⟩
def RX7 : String := "OrreryDials"
def TX7 : u_T := fun k => match k with
  | 0 => ("OrreryDials", "dials", "[LOrreryDials$Dial;", true)
  | 1 => ("OrreryDials", "dialCount", "I", false)
  | 2 => ("OrreryDials", "drives", "[LOrreryDials$Drive;", true)
  | 3 => ("OrreryDials", "driveCount", "I", false)
  | 4 => ("OrreryDials", "slots", "[LOrreryDials$Drive;", true)
  | 5 => ("OrreryDials", "shaftPlaces", "[LOrreryDials$Drive;", true)
  | 6 => ("OrreryDials", "rows", "[LOrreryDials$Row;", true)
  | 7 => ("OrreryDials", "seenBits", "J", false)
  | 8 => ("OrreryDials", "latestFailure", "I", false)
  | _ => ("OrreryDials", "failureCounts", "[I", true)
def tyX7 : Nat → FieldType := fun k => match k with
  | 0 => .array (.object "OrreryDials$Dial")
  | 1 => .int
  | 2 => .array (.object "OrreryDials$Drive")
  | 3 => .int
  | 4 => .array (.object "OrreryDials$Drive")
  | 5 => .array (.object "OrreryDials$Drive")
  | 6 => .array (.object "OrreryDials$Row")
  | 7 => .long
  | 8 => .int
  | _ => .array .int
abbrev wsX70 : List Cond := u_ws RX7 TX7 10
theorem nmX7 : ∀ a, a < 10 → ∀ b, b < 10 → a ≠ b → (TX7 a).2.1 ≠ (TX7 b).2.1 := by decide +kernel
theorem tyX7_ok : ∀ k, k < 10 → parseFieldDescriptor (TX7 k).2.2.1 = some (tyX7 k) := by decide +kernel
abbrev cX7_init : ByteArray := prog_1_method_1_code
def yX7_init : MethodName := ⟨RX7, "<init>", "()V"⟩
abbrev cX7_dial : ByteArray := prog_1_method_2_code
def yX7_dial : MethodName := ⟨RX7, "dial", "(ZJ)I"⟩
abbrev cX7_turn : ByteArray := prog_1_method_3_code
def yX7_turn : MethodName := ⟨RX7, "turn", "(IJ)I"⟩
abbrev cX7_spin : ByteArray := prog_1_method_4_code
def yX7_spin : MethodName := ⟨RX7, "spin", "(IJI)I"⟩
abbrev cX7_place : ByteArray := prog_1_method_5_code
def yX7_place : MethodName := ⟨RX7, "place", "(II)J"⟩
abbrev cX7_laps : ByteArray := prog_1_method_6_code
def yX7_laps : MethodName := ⟨RX7, "laps", "(I)J"⟩
abbrev cX7_fine : ByteArray := prog_1_method_7_code
def yX7_fine : MethodName := ⟨RX7, "fine", "(I)I"⟩
abbrev cX7_drive : ByteArray := prog_1_method_8_code
def yX7_drive : MethodName := ⟨RX7, "drive", "(IJ)I"⟩
abbrev cX7_fit : ByteArray := prog_1_method_9_code
def yX7_fit : MethodName := ⟨RX7, "fit", "(II)I"⟩
abbrev cX7_pull : ByteArray := prog_1_method_10_code
def yX7_pull : MethodName := ⟨RX7, "pull", "(II)I"⟩
abbrev cX7_gear : ByteArray := prog_1_method_11_code
def yX7_gear : MethodName := ⟨RX7, "gear", "(II)I"⟩
abbrev cX7_lay : ByteArray := prog_1_method_12_code
def yX7_lay : MethodName := ⟨RX7, "lay", "(III)I"⟩
abbrev cX7_wind : ByteArray := prog_1_method_13_code
def yX7_wind : MethodName := ⟨RX7, "wind", "(II)I"⟩
abbrev cX7_laid : ByteArray := prog_1_method_14_code
def yX7_laid : MethodName := ⟨RX7, "laid", "(II)I"⟩
abbrev cX7_pulls : ByteArray := prog_1_method_15_code
def yX7_pulls : MethodName := ⟨RX7, "pulls", "(I)I"⟩
abbrev cX7_log : ByteArray := prog_1_method_16_code
def yX7_log : MethodName := ⟨RX7, "log", "(IZI)I"⟩
abbrev cX7_write : ByteArray := prog_1_method_17_code
def yX7_write : MethodName := ⟨RX7, "write", "(IZIJ)I"⟩
abbrev cX7_read : ByteArray := prog_1_method_18_code
def yX7_read : MethodName := ⟨RX7, "read", "(IZI)I"⟩
abbrev cX7_seen : ByteArray := prog_1_method_19_code
def yX7_seen : MethodName := ⟨RX7, "seen", "()J"⟩
abbrev cX7_note : ByteArray := prog_1_method_20_code
def yX7_note : MethodName := ⟨RX7, "note", "(IZII)I"⟩
abbrev cX7_recall : ByteArray := prog_1_method_21_code
def yX7_recall : MethodName := ⟨RX7, "recall", "(IZII)I"⟩
abbrev cX7_sift : ByteArray := prog_1_method_22_code
def yX7_sift : MethodName := ⟨RX7, "sift", "(IZJ)I"⟩
abbrev cX7_cast : ByteArray := prog_1_method_23_code
def yX7_cast : MethodName := ⟨RX7, "cast", "(IIJ)I"⟩
abbrev cX7_left : ByteArray := prog_1_method_24_code
def yX7_left : MethodName := ⟨RX7, "left", "(ZJJ)I"⟩
abbrev cX7_failed : ByteArray := prog_1_method_25_code
def yX7_failed : MethodName := ⟨RX7, "failed", "()I"⟩
abbrev cX7_about : ByteArray := prog_1_method_26_code
def yX7_about : MethodName := ⟨RX7, "about", "(I)I"⟩
abbrev cX7_failWith : ByteArray := prog_1_method_27_code
def yX7_failWith : MethodName := ⟨RX7, "failWith", "(I)I"⟩
abbrev cX7_done : ByteArray := prog_1_method_28_code
def yX7_done : MethodName := ⟨RX7, "done", "(I)I"⟩
abbrev cX7_dialAt : ByteArray := prog_1_method_29_code
def yX7_dialAt : MethodName := ⟨RX7, "dialAt", "(I)LOrreryDials$Dial;"⟩
abbrev cX7_driveAt : ByteArray := prog_1_method_30_code
def yX7_driveAt : MethodName := ⟨RX7, "driveAt", "(I)LOrreryDials$Drive;"⟩
abbrev cX7_rowAt : ByteArray := prog_1_method_31_code
def yX7_rowAt : MethodName := ⟨RX7, "rowAt", "(IZ)LOrreryDials$Row;"⟩
abbrev cX7_isSlot : ByteArray := prog_1_method_32_code
def yX7_isSlot : MethodName := ⟨RX7, "isSlot", "(I)Z"⟩
abbrev cX7_isShaft : ByteArray := prog_1_method_33_code
def yX7_isShaft : MethodName := ⟨RX7, "isShaft", "(I)Z"⟩
abbrev cX7_isShaftPlace : ByteArray := prog_1_method_34_code
def yX7_isShaftPlace : MethodName := ⟨RX7, "isShaftPlace", "(I)Z"⟩
abbrev cX7_isKind : ByteArray := prog_1_method_35_code
def yX7_isKind : MethodName := ⟨RX7, "isKind", "(I)Z"⟩
abbrev cX7_isReal : ByteArray := prog_1_method_36_code
def yX7_isReal : MethodName := ⟨RX7, "isReal", "(I)Z"⟩
abbrev cX7_newDrive : ByteArray := prog_1_method_37_code
def yX7_newDrive : MethodName := ⟨RX7, "newDrive", "(IIJ)LOrreryDials$Drive;"⟩
abbrev cX7_castReal : ByteArray := prog_1_method_38_code
def yX7_castReal : MethodName := ⟨RX7, "castReal", "(IIJ)J"⟩
abbrev cX7_castWhole : ByteArray := prog_1_method_39_code
def yX7_castWhole : MethodName := ⟨RX7, "castWhole", "(IJ)J"⟩
def RX8 : String := "OrreryDialsModel"
def TX8 : u_T := fun k => match k with
  | 0 => ("OrreryDialsModel", "dials", "I", false)
  | 1 => ("OrreryDialsModel", "isFine", "[Z", true)
  | 2 => ("OrreryDialsModel", "rimF", "[F", true)
  | 3 => ("OrreryDialsModel", "placeF", "[F", true)
  | 4 => ("OrreryDialsModel", "rimD", "[D", true)
  | 5 => ("OrreryDialsModel", "placeD", "[D", true)
  | 6 => ("OrreryDialsModel", "lapsOf", "[J", true)
  | 7 => ("OrreryDialsModel", "drives", "I", false)
  | 8 => ("OrreryDialsModel", "sortOf", "[I", true)
  | 9 => ("OrreryDialsModel", "pullOf", "[D", true)
  | 10 => ("OrreryDialsModel", "gearOf", "[I", true)
  | 11 => ("OrreryDialsModel", "pulled", "[I", true)
  | 12 => ("OrreryDialsModel", "slots", "[I", true)
  | 13 => ("OrreryDialsModel", "shafts", "[I", true)
  | 14 => ("OrreryDialsModel", "many", "[I", true)
  | 15 => ("OrreryDialsModel", "floats", "[F", true)
  | 16 => ("OrreryDialsModel", "doubles", "[D", true)
  | 17 => ("OrreryDialsModel", "seen", "J", false)
  | 18 => ("OrreryDialsModel", "failed", "I", false)
  | _ => ("OrreryDialsModel", "counts", "[I", true)
def tyX8 : Nat → FieldType := fun k => match k with
  | 0 => .int
  | 1 => .array .boolean
  | 2 => .array .float
  | 3 => .array .float
  | 4 => .array .double
  | 5 => .array .double
  | 6 => .array .long
  | 7 => .int
  | 8 => .array .int
  | 9 => .array .double
  | 10 => .array .int
  | 11 => .array .int
  | 12 => .array .int
  | 13 => .array .int
  | 14 => .array .int
  | 15 => .array .float
  | 16 => .array .double
  | 17 => .long
  | 18 => .int
  | _ => .array .int
abbrev wsX80 : List Cond := u_ws RX8 TX8 20
theorem nmX8 : ∀ a, a < 20 → ∀ b, b < 20 → a ≠ b → (TX8 a).2.1 ≠ (TX8 b).2.1 := by decide +kernel
theorem tyX8_ok : ∀ k, k < 20 → parseFieldDescriptor (TX8 k).2.2.1 = some (tyX8 k) := by decide +kernel
abbrev cX8_init : ByteArray := prog_10_method_1_code
def yX8_init : MethodName := ⟨RX8, "<init>", "()V"⟩
abbrev cX8_in : ByteArray := prog_10_method_2_code
def yX8_in : MethodName := ⟨RX8, "in", "(JJJ)Z"⟩
abbrev cX8_done : ByteArray := prog_10_method_3_code
def yX8_done : MethodName := ⟨RX8, "done", "(I)I"⟩
abbrev cX8_fails : ByteArray := prog_10_method_4_code
def yX8_fails : MethodName := ⟨RX8, "fails", "(I)I"⟩
abbrev cX8_isFitFloat : ByteArray := prog_10_method_5_code
def yX8_isFitFloat : MethodName := ⟨RX8, "isFitFloat", "(J)Z"⟩
abbrev cX8_isFitDouble : ByteArray := prog_10_method_6_code
def yX8_isFitDouble : MethodName := ⟨RX8, "isFitDouble", "(J)Z"⟩
abbrev cX8_isFit : ByteArray := prog_10_method_7_code
def yX8_isFit : MethodName := ⟨RX8, "isFit", "(ZJ)Z"⟩
abbrev cX8_isNone : ByteArray := prog_10_method_8_code
def yX8_isNone : MethodName := ⟨RX8, "isNone", "(IJ)Z"⟩
abbrev cX8_isEndless : ByteArray := prog_10_method_9_code
def yX8_isEndless : MethodName := ⟨RX8, "isEndless", "(D)Z"⟩
abbrev cX8_isEndlessFloat : ByteArray := prog_10_method_10_code
def yX8_isEndlessFloat : MethodName := ⟨RX8, "isEndlessFloat", "(F)Z"⟩
abbrev cX8_floatOf : ByteArray := prog_10_method_11_code
def yX8_floatOf : MethodName := ⟨RX8, "floatOf", "(J)F"⟩
abbrev cX8_doubleOf : ByteArray := prog_10_method_12_code
def yX8_doubleOf : MethodName := ⟨RX8, "doubleOf", "(J)D"⟩
abbrev cX8_isDial : ByteArray := prog_10_method_13_code
def yX8_isDial : MethodName := ⟨RX8, "isDial", "(I)Z"⟩
abbrev cX8_dial : ByteArray := prog_10_method_14_code
def yX8_dial : MethodName := ⟨RX8, "dial", "(ZJ)I"⟩
abbrev cX8_goesFloat : ByteArray := prog_10_method_15_code
def yX8_goesFloat : MethodName := ⟨RX8, "goesFloat", "(IF)Z"⟩
abbrev cX8_goesDouble : ByteArray := prog_10_method_16_code
def yX8_goesDouble : MethodName := ⟨RX8, "goesDouble", "(ID)Z"⟩
abbrev cX8_goes : ByteArray := prog_10_method_17_code
def yX8_goes : MethodName := ⟨RX8, "goes", "(IJ)Z"⟩
abbrev cX8_turn : ByteArray := prog_10_method_18_code
def yX8_turn : MethodName := ⟨RX8, "turn", "(IJ)I"⟩
abbrev cX8_spin : ByteArray := prog_10_method_19_code
def yX8_spin : MethodName := ⟨RX8, "spin", "(IJI)I"⟩
abbrev cX8_place : ByteArray := prog_10_method_20_code
def yX8_place : MethodName := ⟨RX8, "place", "(II)J"⟩
abbrev cX8_laps : ByteArray := prog_10_method_21_code
def yX8_laps : MethodName := ⟨RX8, "laps", "(I)J"⟩
abbrev cX8_fine : ByteArray := prog_10_method_22_code
def yX8_fine : MethodName := ⟨RX8, "fine", "(I)I"⟩
abbrev cX8_isDrive : ByteArray := prog_10_method_23_code
def yX8_isDrive : MethodName := ⟨RX8, "isDrive", "(I)Z"⟩
abbrev cX8_isSlot : ByteArray := prog_10_method_24_code
def yX8_isSlot : MethodName := ⟨RX8, "isSlot", "(I)Z"⟩
abbrev cX8_isShaft : ByteArray := prog_10_method_25_code
def yX8_isShaft : MethodName := ⟨RX8, "isShaft", "(I)Z"⟩
abbrev cX8_drive : ByteArray := prog_10_method_26_code
def yX8_drive : MethodName := ⟨RX8, "drive", "(IJ)I"⟩
abbrev cX8_fit : ByteArray := prog_10_method_27_code
def yX8_fit : MethodName := ⟨RX8, "fit", "(II)I"⟩
abbrev cX8_hauls : ByteArray := prog_10_method_28_code
def yX8_hauls : MethodName := ⟨RX8, "hauls", "(II)Z"⟩
abbrev cX8_pullCause : ByteArray := prog_10_method_29_code
def yX8_pullCause : MethodName := ⟨RX8, "pullCause", "(II)I"⟩
abbrev cX8_pull : ByteArray := prog_10_method_30_code
def yX8_pull : MethodName := ⟨RX8, "pull", "(II)I"⟩
abbrev cX8_gear : ByteArray := prog_10_method_31_code
def yX8_gear : MethodName := ⟨RX8, "gear", "(II)I"⟩
abbrev cX8_lay : ByteArray := prog_10_method_32_code
def yX8_lay : MethodName := ⟨RX8, "lay", "(III)I"⟩
abbrev cX8_wind : ByteArray := prog_10_method_33_code
def yX8_wind : MethodName := ⟨RX8, "wind", "(II)I"⟩
abbrev cX8_laid : ByteArray := prog_10_method_34_code
def yX8_laid : MethodName := ⟨RX8, "laid", "(II)I"⟩
abbrev cX8_pulls : ByteArray := prog_10_method_35_code
def yX8_pulls : MethodName := ⟨RX8, "pulls", "(I)I"⟩
abbrev cX8_isLog : ByteArray := prog_10_method_36_code
def yX8_isLog : MethodName := ⟨RX8, "isLog", "(I)Z"⟩
abbrev cX8_rowOf : ByteArray := prog_10_method_37_code
def yX8_rowOf : MethodName := ⟨RX8, "rowOf", "(IZ)I"⟩
abbrev cX8_cause : ByteArray := prog_10_method_38_code
def yX8_cause : MethodName := ⟨RX8, "cause", "(II)I"⟩
abbrev cX8_log : ByteArray := prog_10_method_39_code
def yX8_log : MethodName := ⟨RX8, "log", "(IZI)I"⟩
abbrev cX8_write : ByteArray := prog_10_method_40_code
def yX8_write : MethodName := ⟨RX8, "write", "(IZIJ)I"⟩
abbrev cX8_read : ByteArray := prog_10_method_41_code
def yX8_read : MethodName := ⟨RX8, "read", "(IZI)I"⟩
abbrev cX8_seen : ByteArray := prog_10_method_42_code
def yX8_seen : MethodName := ⟨RX8, "seen", "()J"⟩
abbrev cX8_note : ByteArray := prog_10_method_43_code
def yX8_note : MethodName := ⟨RX8, "note", "(IZII)I"⟩
abbrev cX8_recall : ByteArray := prog_10_method_44_code
def yX8_recall : MethodName := ⟨RX8, "recall", "(IZII)I"⟩
abbrev cX8_sift : ByteArray := prog_10_method_45_code
def yX8_sift : MethodName := ⟨RX8, "sift", "(IZJ)I"⟩
abbrev cX8_castReal : ByteArray := prog_10_method_46_code
def yX8_castReal : MethodName := ⟨RX8, "castReal", "(DI)J"⟩
abbrev cX8_castWhole : ByteArray := prog_10_method_47_code
def yX8_castWhole : MethodName := ⟨RX8, "castWhole", "(JI)J"⟩
abbrev cX8_cast : ByteArray := prog_10_method_48_code
def yX8_cast : MethodName := ⟨RX8, "cast", "(IIJ)I"⟩
abbrev cX8_left : ByteArray := prog_10_method_49_code
def yX8_left : MethodName := ⟨RX8, "left", "(ZJJ)I"⟩
abbrev cX8_failed : ByteArray := prog_10_method_50_code
def yX8_failed : MethodName := ⟨RX8, "failed", "()I"⟩
abbrev cX8_about : ByteArray := prog_10_method_51_code
def yX8_about : MethodName := ⟨RX8, "about", "(I)I"⟩
def RJxe99ae : String := "java/lang/Double"
def TJxe99ae : u_T := fun k => match k with
  | _ => ("", "", "", false)
def tyJxe99ae : Nat → FieldType := fun k => match k with
  | _ => .int
abbrev wsJxe99ae0 : List Cond := u_ws RJxe99ae TJxe99ae 0
theorem nmJxe99ae : ∀ a, a < 0 → ∀ b, b < 0 → a ≠ b → (TJxe99ae a).2.1 ≠ (TJxe99ae b).2.1 := by decide +kernel
theorem tyJxe99ae_ok : ∀ k, k < 0 → parseFieldDescriptor (TJxe99ae k).2.2.1 = some (tyJxe99ae k) := by decide +kernel
abbrev cJxe99ae_isNaN_b9ae7 : ByteArray := prog_11_method_6_code
def yJxe99ae_isNaN_b9ae7 : MethodName := ⟨RJxe99ae, "isNaN", "(D)Z"⟩
abbrev cJxe99ae_doubleToLongBits_ccdee : ByteArray := prog_11_method_23_code
def yJxe99ae_doubleToLongBits_ccdee : MethodName := ⟨RJxe99ae, "doubleToLongBits", "(D)J"⟩
def RJxf58ca : String := "java/lang/Float"
def TJxf58ca : u_T := fun k => match k with
  | _ => ("", "", "", false)
def tyJxf58ca : Nat → FieldType := fun k => match k with
  | _ => .int
abbrev wsJxf58ca0 : List Cond := u_ws RJxf58ca TJxf58ca 0
theorem nmJxf58ca : ∀ a, a < 0 → ∀ b, b < 0 → a ≠ b → (TJxf58ca a).2.1 ≠ (TJxf58ca b).2.1 := by decide +kernel
theorem tyJxf58ca_ok : ∀ k, k < 0 → parseFieldDescriptor (TJxf58ca k).2.2.1 = some (tyJxf58ca k) := by decide +kernel
abbrev cJxf58ca_isNaN_12338 : ByteArray := prog_12_method_6_code
def yJxf58ca_isNaN_12338 : MethodName := ⟨RJxf58ca, "isNaN", "(F)Z"⟩
abbrev cJxf58ca_floatToIntBits_5c35a : ByteArray := prog_12_method_24_code
def yJxf58ca_floatToIntBits_5c35a : MethodName := ⟨RJxf58ca, "floatToIntBits", "(F)I"⟩
def RJ6 : String := "java/lang/Integer"
def TJ6 : u_T := fun k => match k with
  | _ => ("", "", "", false)
def tyJ6 : Nat → FieldType := fun k => match k with
  | _ => .int
abbrev wsJ60 : List Cond := u_ws RJ6 TJ6 0
theorem nmJ6 : ∀ a, a < 0 → ∀ b, b < 0 → a ≠ b → (TJ6 a).2.1 ≠ (TJ6 b).2.1 := by decide +kernel
theorem tyJ6_ok : ∀ k, k < 0 → parseFieldDescriptor (TJ6 k).2.2.1 = some (tyJ6 k) := by decide +kernel
abbrev cJ6_numberOfLeadingZeros_0f7a4 : ByteArray := prog_13_method_47_code
def yJ6_numberOfLeadingZeros_0f7a4 : MethodName := ⟨RJ6, "numberOfLeadingZeros", "(I)I"⟩
def RJ13 : String := "java/lang/Long"
def TJ13 : u_T := fun k => match k with
  | _ => ("", "", "", false)
def tyJ13 : Nat → FieldType := fun k => match k with
  | _ => .int
abbrev wsJ130 : List Cond := u_ws RJ13 TJ13 0
theorem nmJ13 : ∀ a, a < 0 → ∀ b, b < 0 → a ≠ b → (TJ13 a).2.1 ≠ (TJ13 b).2.1 := by decide +kernel
theorem tyJ13_ok : ∀ k, k < 0 → parseFieldDescriptor (TJ13 k).2.2.1 = some (tyJ13 k) := by decide +kernel
abbrev cJ13_numberOfLeadingZeros_95d88 : ByteArray := prog_14_method_48_code
def yJ13_numberOfLeadingZeros_95d88 : MethodName := ⟨RJ13, "numberOfLeadingZeros", "(J)I"⟩
def RJ9 : String := "java/lang/Math"
def TJ9 : u_T := fun k => match k with
  | _ => ("", "", "", false)
def tyJ9 : Nat → FieldType := fun k => match k with
  | _ => .int
abbrev wsJ90 : List Cond := u_ws RJ9 TJ9 0
theorem nmJ9 : ∀ a, a < 0 → ∀ b, b < 0 → a ≠ b → (TJ9 a).2.1 ≠ (TJ9 b).2.1 := by decide +kernel
theorem tyJ9_ok : ∀ k, k < 0 → parseFieldDescriptor (TJ9 k).2.2.1 = some (tyJ9 k) := by decide +kernel
abbrev cJ9_abs_067f4 : ByteArray := prog_15_method_61_code
def yJ9_abs_067f4 : MethodName := ⟨RJ9, "abs", "(J)J"⟩
abbrev cJ9_max_7cf53 : ByteArray := prog_15_method_65_code
def yJ9_max_7cf53 : MethodName := ⟨RJ9, "max", "(II)I"⟩
abbrev cJ9_max_f86c9 : ByteArray := prog_15_method_66_code
def yJ9_max_f86c9 : MethodName := ⟨RJ9, "max", "(JJ)J"⟩
abbrev cJ9_min_7cf53 : ByteArray := prog_15_method_69_code
def yJ9_min_7cf53 : MethodName := ⟨RJ9, "min", "(II)I"⟩
abbrev cJ9_min_f86c9 : ByteArray := prog_15_method_70_code
def yJ9_min_f86c9 : MethodName := ⟨RJ9, "min", "(JJ)J"⟩
def RL : String := "OrreryDialsLaw"
abbrev cL_law : ByteArray := code
def yL_law : MethodName := ⟨RL, "law", "([I)Z"⟩
def wsX2_init : List Cond := .code yX2_init cX2_init 4 none :: ([.methodLink RX2 1 objectInit, .instanceMethod objectInit, .code objectInit ⟨#[0xb1]⟩ 1 none, .fieldLink RX2 7 "OrreryDials$Drive" "pullCount" "I", .fieldLink RX2 13 "OrreryDials$Drive" "number" "I", .fieldLink RX2 16 "OrreryDials$Drive" "pull" "J"] ++ wsX00 ++ wsX30 ++ wsX60)
def wsX0_init : List Cond := .code yX0_init cX0_init 4 none :: ([.fieldLink RX0 7 "OrreryDials$Crank" "gear" "I", .methodLink RX0 1 yX2_init, .instanceMethod yX2_init, .initialized RX2, .code yX2_init cX2_init 4 none, .methodLink RX2 1 objectInit, .instanceMethod objectInit, .code objectInit ⟨#[0xb1]⟩ 1 none, .fieldLink RX2 7 "OrreryDials$Drive" "pullCount" "I", .fieldLink RX2 13 "OrreryDials$Drive" "number" "I", .fieldLink RX2 16 "OrreryDials$Drive" "pull" "J"] ++ wsX00 ++ wsX30 ++ wsX60)
def wsX4_width : List Cond := .code yX4_width cX4_width 1 (some .int) :: ([])
def wsX4_sizeOf : List Cond := .code yX4_sizeOf cX4_sizeOf 3 (some .long) :: ([.constantLong RX4 68 (9223372036854775807), .constantLong RX4 82 (2147483647)])
def wsX4_mantissa : List Cond := .code yX4_mantissa cX4_mantissa 7 (some .long) :: ([.methodLink RX4 74 yX4_width, .static yX4_width, .initialized RX4, .code yX4_width cX4_width 1 (some .int), .methodLink RX4 7 yX4_sizeOf, .static yX4_sizeOf, .code yX4_sizeOf cX4_sizeOf 3 (some .long), .constantLong RX4 68 (9223372036854775807), .constantLong RX4 82 (2147483647)])
def wsX4_leastExponent : List Cond := .code yX4_leastExponent cX4_leastExponent 1 (some .int) :: ([])
def wsX4_exponent : List Cond := .code yX4_exponent cX4_exponent 4 (some .int) :: ([.methodLink RX4 57 Lib.Math.max.name, .static Lib.Math.max.name, .initialized "java/lang/Math", .code Lib.Math.max.name Lib.Math.max.code 2 (some .int), .methodLink RX4 7 yX4_sizeOf, .static yX4_sizeOf, .initialized RX4, .code yX4_sizeOf cX4_sizeOf 3 (some .long), .constantLong RX4 68 (9223372036854775807), .constantLong RX4 82 (2147483647), .methodLink RX4 74 yX4_width, .static yX4_width, .code yX4_width cX4_width 1 (some .int), .methodLink RX4 70 yX4_leastExponent, .static yX4_leastExponent, .code yX4_leastExponent cX4_leastExponent 1 (some .int)])
def wsX4_signed : List Cond := .code yX4_signed cX4_signed 6 (some .long) :: ([.constantLong RX4 19 (-9223372036854775808), .constantLong RX4 84 (-2147483648)])
def wsJ6_numberOfLeadingZeros_0f7a4 : List Cond := .code yJ6_numberOfLeadingZeros_0f7a4 cJ6_numberOfLeadingZeros_0f7a4 2 (some .int) :: ([.constant RJ6 264 (65536)])
def wsJ13_numberOfLeadingZeros_95d88 : List Cond := .code yJ13_numberOfLeadingZeros_95d88 cJ13_numberOfLeadingZeros_95d88 3 (some .int) :: ([.methodLink RJ13 308 yJ6_numberOfLeadingZeros_0f7a4, .static yJ6_numberOfLeadingZeros_0f7a4, .initialized RJ6, .code yJ6_numberOfLeadingZeros_0f7a4 cJ6_numberOfLeadingZeros_0f7a4 2 (some .int), .constant RJ6 264 (65536)])
def wsX4_lengthOf : List Cond := .code yX4_lengthOf cX4_lengthOf 2 (some .int) :: ([.methodLink RX4 54 yJ13_numberOfLeadingZeros_95d88, .static yJ13_numberOfLeadingZeros_95d88, .initialized RJ13, .code yJ13_numberOfLeadingZeros_95d88 cJ13_numberOfLeadingZeros_95d88 3 (some .int), .methodLink RJ13 308 yJ6_numberOfLeadingZeros_0f7a4, .static yJ6_numberOfLeadingZeros_0f7a4, .initialized RJ6, .code yJ6_numberOfLeadingZeros_0f7a4 cJ6_numberOfLeadingZeros_0f7a4 2 (some .int), .constant RJ6 264 (65536)])
def wsX4_endless : List Cond := .code yX4_endless cX4_endless 1 (some .long) :: ([.constantLong RX4 86 (9218868437227405312), .constantLong RX4 88 (2139095040)])
def wsX4_rounded : List Cond := .code yX4_rounded cX4_rounded 10 (some .long) :: ([])
def wsX4_nearest_r1 : List Cond := [Cond.methodLink RX4 57 Lib.Math.max.name, Cond.static Lib.Math.max.name, Cond.initialized "java/lang/Math", Cond.code Lib.Math.max.name Lib.Math.max.code 2 (some .int), Cond.methodLink RX4 36 yX4_signed, Cond.static yX4_signed, Cond.initialized RX4, Cond.code yX4_signed cX4_signed 6 (some .long), Cond.constantLong RX4 19 (-9223372036854775808), Cond.constantLong RX4 84 (-2147483648), Cond.methodLink RX4 70 yX4_leastExponent, Cond.static yX4_leastExponent, Cond.code yX4_leastExponent cX4_leastExponent 1 (some .int), Cond.methodLink RX4 40 yX4_lengthOf, Cond.static yX4_lengthOf, Cond.code yX4_lengthOf cX4_lengthOf 2 (some .int), Cond.methodLink RX4 54 yJ13_numberOfLeadingZeros_95d88, Cond.static yJ13_numberOfLeadingZeros_95d88, Cond.initialized RJ13, Cond.code yJ13_numberOfLeadingZeros_95d88 cJ13_numberOfLeadingZeros_95d88 3 (some .int), Cond.methodLink RJ13 308 yJ6_numberOfLeadingZeros_0f7a4, Cond.static yJ6_numberOfLeadingZeros_0f7a4, Cond.initialized RJ6, Cond.code yJ6_numberOfLeadingZeros_0f7a4 cJ6_numberOfLeadingZeros_0f7a4 2 (some .int)]
def wsX4_nearest_r2 : List Cond := [Cond.constant RJ6 264 (65536), Cond.methodLink RX4 74 yX4_width, Cond.static yX4_width, Cond.code yX4_width cX4_width 1 (some .int), Cond.methodLink RX4 13 yX4_endless, Cond.static yX4_endless, Cond.code yX4_endless cX4_endless 1 (some .long), Cond.constantLong RX4 86 (9218868437227405312), Cond.constantLong RX4 88 (2139095040), Cond.methodLink RX4 77 yX4_rounded, Cond.static yX4_rounded, Cond.code yX4_rounded cX4_rounded 10 (some .long)]
def wsX4_nearest : List Cond := .code yX4_nearest cX4_nearest 13 (some .long) :: ((wsX4_nearest_r1 ++ wsX4_nearest_r2))
def wsX4_timesInt_r1 : List Cond := [Cond.methodLink RX4 48 Lib.MathLoose.abs_long.x, Cond.static Lib.MathLoose.abs_long.x, Cond.initialized "java/lang/Math", Cond.code Lib.MathLoose.abs_long.x Lib.MathLoose.abs_long.code 2 (some .long), Cond.methodLink RX4 21 yX4_mantissa, Cond.static yX4_mantissa, Cond.initialized RX4, Cond.code yX4_mantissa cX4_mantissa 7 (some .long), Cond.methodLink RX4 74 yX4_width, Cond.static yX4_width, Cond.code yX4_width cX4_width 1 (some .int), Cond.methodLink RX4 7 yX4_sizeOf, Cond.static yX4_sizeOf, Cond.code yX4_sizeOf cX4_sizeOf 3 (some .long), Cond.constantLong RX4 68 (9223372036854775807), Cond.constantLong RX4 82 (2147483647), Cond.methodLink RX4 24 yX4_exponent, Cond.static yX4_exponent, Cond.code yX4_exponent cX4_exponent 4 (some .int), Cond.methodLink RX4 57 Lib.Math.max.name, Cond.static Lib.Math.max.name, Cond.code Lib.Math.max.name Lib.Math.max.code 2 (some .int), Cond.methodLink RX4 70 yX4_leastExponent, Cond.static yX4_leastExponent]
def wsX4_timesInt_r2 : List Cond := [Cond.code yX4_leastExponent cX4_leastExponent 1 (some .int), Cond.methodLink RX4 32 yX4_nearest, Cond.static yX4_nearest, Cond.code yX4_nearest cX4_nearest 13 (some .long), Cond.methodLink RX4 36 yX4_signed, Cond.static yX4_signed, Cond.code yX4_signed cX4_signed 6 (some .long), Cond.constantLong RX4 19 (-9223372036854775808), Cond.constantLong RX4 84 (-2147483648), Cond.methodLink RX4 40 yX4_lengthOf, Cond.static yX4_lengthOf, Cond.code yX4_lengthOf cX4_lengthOf 2 (some .int), Cond.methodLink RX4 54 yJ13_numberOfLeadingZeros_95d88, Cond.static yJ13_numberOfLeadingZeros_95d88, Cond.initialized RJ13, Cond.code yJ13_numberOfLeadingZeros_95d88 cJ13_numberOfLeadingZeros_95d88 3 (some .int), Cond.methodLink RJ13 308 yJ6_numberOfLeadingZeros_0f7a4, Cond.static yJ6_numberOfLeadingZeros_0f7a4, Cond.initialized RJ6, Cond.code yJ6_numberOfLeadingZeros_0f7a4 cJ6_numberOfLeadingZeros_0f7a4 2 (some .int), Cond.constant RJ6 264 (65536), Cond.methodLink RX4 13 yX4_endless, Cond.static yX4_endless, Cond.code yX4_endless cX4_endless 1 (some .long)]
def wsX4_timesInt_r3 : List Cond := [Cond.constantLong RX4 86 (9218868437227405312), Cond.constantLong RX4 88 (2139095040), Cond.methodLink RX4 77 yX4_rounded, Cond.static yX4_rounded, Cond.code yX4_rounded cX4_rounded 10 (some .long)]
def wsX4_timesInt : List Cond := .code yX4_timesInt cX4_timesInt 4 (some .long) :: ((wsX4_timesInt_r1 ++ (wsX4_timesInt_r2 ++ wsX4_timesInt_r3)))
def wsX0_forceAt_r1 : List Cond := [Cond.fieldLink RX0 13 "OrreryDials$Crank" "pull" "J", Cond.sameField "OrreryDials$Crank" "OrreryDials$Drive" "pull" "J", Cond.fieldLink RX0 7 "OrreryDials$Crank" "gear" "I", Cond.methodLink RX0 17 yX4_timesInt, Cond.static yX4_timesInt, Cond.initialized RX4, Cond.code yX4_timesInt cX4_timesInt 4 (some .long), Cond.methodLink RX4 48 Lib.MathLoose.abs_long.x, Cond.static Lib.MathLoose.abs_long.x, Cond.initialized "java/lang/Math", Cond.code Lib.MathLoose.abs_long.x Lib.MathLoose.abs_long.code 2 (some .long), Cond.methodLink RX4 21 yX4_mantissa, Cond.static yX4_mantissa, Cond.code yX4_mantissa cX4_mantissa 7 (some .long), Cond.methodLink RX4 74 yX4_width, Cond.static yX4_width, Cond.code yX4_width cX4_width 1 (some .int), Cond.methodLink RX4 7 yX4_sizeOf, Cond.static yX4_sizeOf, Cond.code yX4_sizeOf cX4_sizeOf 3 (some .long), Cond.constantLong RX4 68 (9223372036854775807), Cond.constantLong RX4 82 (2147483647), Cond.methodLink RX4 24 yX4_exponent, Cond.static yX4_exponent]
def wsX0_forceAt_r2 : List Cond := [Cond.code yX4_exponent cX4_exponent 4 (some .int), Cond.methodLink RX4 57 Lib.Math.max.name, Cond.static Lib.Math.max.name, Cond.code Lib.Math.max.name Lib.Math.max.code 2 (some .int), Cond.methodLink RX4 70 yX4_leastExponent, Cond.static yX4_leastExponent, Cond.code yX4_leastExponent cX4_leastExponent 1 (some .int), Cond.methodLink RX4 32 yX4_nearest, Cond.static yX4_nearest, Cond.code yX4_nearest cX4_nearest 13 (some .long), Cond.methodLink RX4 36 yX4_signed, Cond.static yX4_signed, Cond.code yX4_signed cX4_signed 6 (some .long), Cond.constantLong RX4 19 (-9223372036854775808), Cond.constantLong RX4 84 (-2147483648), Cond.methodLink RX4 40 yX4_lengthOf, Cond.static yX4_lengthOf, Cond.code yX4_lengthOf cX4_lengthOf 2 (some .int), Cond.methodLink RX4 54 yJ13_numberOfLeadingZeros_95d88, Cond.static yJ13_numberOfLeadingZeros_95d88, Cond.initialized RJ13, Cond.code yJ13_numberOfLeadingZeros_95d88 cJ13_numberOfLeadingZeros_95d88 3 (some .int), Cond.methodLink RJ13 308 yJ6_numberOfLeadingZeros_0f7a4, Cond.static yJ6_numberOfLeadingZeros_0f7a4]
def wsX0_forceAt_r3 : List Cond := [Cond.initialized RJ6, Cond.code yJ6_numberOfLeadingZeros_0f7a4 cJ6_numberOfLeadingZeros_0f7a4 2 (some .int), Cond.constant RJ6 264 (65536), Cond.methodLink RX4 13 yX4_endless, Cond.static yX4_endless, Cond.code yX4_endless cX4_endless 1 (some .long), Cond.constantLong RX4 86 (9218868437227405312), Cond.constantLong RX4 88 (2139095040), Cond.methodLink RX4 77 yX4_rounded, Cond.static yX4_rounded, Cond.code yX4_rounded cX4_rounded 10 (some .long)]
def wsX0_forceAt : List Cond := .code yX0_forceAt cX0_forceAt 3 (some .long) :: ((wsX0_forceAt_r1 ++ (wsX0_forceAt_r2 ++ wsX0_forceAt_r3)) ++ wsX00 ++ wsX30 ++ wsX60)
def wsX1_init : List Cond := .code yX1_init cX1_init 4 none :: ([.methodLink RX1 1 objectInit, .instanceMethod objectInit, .code objectInit ⟨#[0xb1]⟩ 1 none, .fieldLink RX1 7 "OrreryDials$Dial" "place" "J", .fieldLink RX1 13 "OrreryDials$Dial" "laps" "J", .fieldLink RX1 16 "OrreryDials$Dial" "fine" "Z", .fieldLink RX1 20 "OrreryDials$Dial" "rim" "J"] ++ wsX10)
def wsX4_withMore : List Cond := .code yX4_withMore cX4_withMore 4 (some .long) :: ([])
def wsX4_shiftedOut : List Cond := .code yX4_shiftedOut cX4_shiftedOut 3 (some .long) :: ([.methodLink RX4 44 yX4_withMore, .static yX4_withMore, .initialized RX4, .code yX4_withMore cX4_withMore 4 (some .long)])
def wsX4_sum_r1 : List Cond := [Cond.methodLink RX4 7 yX4_sizeOf, Cond.static yX4_sizeOf, Cond.initialized RX4, Cond.code yX4_sizeOf cX4_sizeOf 3 (some .long), Cond.constantLong RX4 68 (9223372036854775807), Cond.constantLong RX4 82 (2147483647), Cond.methodLink RX4 21 yX4_mantissa, Cond.static yX4_mantissa, Cond.code yX4_mantissa cX4_mantissa 7 (some .long), Cond.methodLink RX4 74 yX4_width, Cond.static yX4_width, Cond.code yX4_width cX4_width 1 (some .int), Cond.methodLink RX4 24 yX4_exponent, Cond.static yX4_exponent, Cond.code yX4_exponent cX4_exponent 4 (some .int), Cond.methodLink RX4 57 Lib.Math.max.name, Cond.static Lib.Math.max.name, Cond.initialized "java/lang/Math", Cond.code Lib.Math.max.name Lib.Math.max.code 2 (some .int), Cond.methodLink RX4 70 yX4_leastExponent, Cond.static yX4_leastExponent, Cond.code yX4_leastExponent cX4_leastExponent 1 (some .int), Cond.methodLink RX4 28 yX4_shiftedOut, Cond.static yX4_shiftedOut]
def wsX4_sum_r2 : List Cond := [Cond.code yX4_shiftedOut cX4_shiftedOut 3 (some .long), Cond.methodLink RX4 44 yX4_withMore, Cond.static yX4_withMore, Cond.code yX4_withMore cX4_withMore 4 (some .long), Cond.methodLink RX4 32 yX4_nearest, Cond.static yX4_nearest, Cond.code yX4_nearest cX4_nearest 13 (some .long), Cond.methodLink RX4 36 yX4_signed, Cond.static yX4_signed, Cond.code yX4_signed cX4_signed 6 (some .long), Cond.constantLong RX4 19 (-9223372036854775808), Cond.constantLong RX4 84 (-2147483648), Cond.methodLink RX4 40 yX4_lengthOf, Cond.static yX4_lengthOf, Cond.code yX4_lengthOf cX4_lengthOf 2 (some .int), Cond.methodLink RX4 54 yJ13_numberOfLeadingZeros_95d88, Cond.static yJ13_numberOfLeadingZeros_95d88, Cond.initialized RJ13, Cond.code yJ13_numberOfLeadingZeros_95d88 cJ13_numberOfLeadingZeros_95d88 3 (some .int), Cond.methodLink RJ13 308 yJ6_numberOfLeadingZeros_0f7a4, Cond.static yJ6_numberOfLeadingZeros_0f7a4, Cond.initialized RJ6, Cond.code yJ6_numberOfLeadingZeros_0f7a4 cJ6_numberOfLeadingZeros_0f7a4 2 (some .int), Cond.constant RJ6 264 (65536)]
def wsX4_sum_r3 : List Cond := [Cond.methodLink RX4 13 yX4_endless, Cond.static yX4_endless, Cond.code yX4_endless cX4_endless 1 (some .long), Cond.constantLong RX4 86 (9218868437227405312), Cond.constantLong RX4 88 (2139095040), Cond.methodLink RX4 77 yX4_rounded, Cond.static yX4_rounded, Cond.code yX4_rounded cX4_rounded 10 (some .long)]
def wsX4_sum : List Cond := .code yX4_sum cX4_sum 19 (some .long) :: ((wsX4_sum_r1 ++ (wsX4_sum_r2 ++ wsX4_sum_r3)))
def wsX4_isFit : List Cond := .code yX4_isFit cX4_isFit 3 (some .boolean) :: ([.methodLink RX4 7 yX4_sizeOf, .static yX4_sizeOf, .initialized RX4, .code yX4_sizeOf cX4_sizeOf 3 (some .long), .constantLong RX4 68 (9223372036854775807), .constantLong RX4 82 (2147483647), .methodLink RX4 13 yX4_endless, .static yX4_endless, .code yX4_endless cX4_endless 1 (some .long), .constantLong RX4 86 (9218868437227405312), .constantLong RX4 88 (2139095040)])
def wsX4_quotient_r1 : List Cond := [Cond.methodLink RX4 21 yX4_mantissa, Cond.static yX4_mantissa, Cond.initialized RX4, Cond.code yX4_mantissa cX4_mantissa 7 (some .long), Cond.methodLink RX4 74 yX4_width, Cond.static yX4_width, Cond.code yX4_width cX4_width 1 (some .int), Cond.methodLink RX4 7 yX4_sizeOf, Cond.static yX4_sizeOf, Cond.code yX4_sizeOf cX4_sizeOf 3 (some .long), Cond.constantLong RX4 68 (9223372036854775807), Cond.constantLong RX4 82 (2147483647), Cond.methodLink RX4 36 yX4_signed, Cond.static yX4_signed, Cond.code yX4_signed cX4_signed 6 (some .long), Cond.constantLong RX4 19 (-9223372036854775808), Cond.constantLong RX4 84 (-2147483648), Cond.methodLink RX4 40 yX4_lengthOf, Cond.static yX4_lengthOf, Cond.code yX4_lengthOf cX4_lengthOf 2 (some .int), Cond.methodLink RX4 54 yJ13_numberOfLeadingZeros_95d88, Cond.static yJ13_numberOfLeadingZeros_95d88, Cond.initialized RJ13, Cond.code yJ13_numberOfLeadingZeros_95d88 cJ13_numberOfLeadingZeros_95d88 3 (some .int)]
def wsX4_quotient_r2 : List Cond := [Cond.methodLink RJ13 308 yJ6_numberOfLeadingZeros_0f7a4, Cond.static yJ6_numberOfLeadingZeros_0f7a4, Cond.initialized RJ6, Cond.code yJ6_numberOfLeadingZeros_0f7a4 cJ6_numberOfLeadingZeros_0f7a4 2 (some .int), Cond.constant RJ6 264 (65536), Cond.methodLink RX4 24 yX4_exponent, Cond.static yX4_exponent, Cond.code yX4_exponent cX4_exponent 4 (some .int), Cond.methodLink RX4 57 Lib.Math.max.name, Cond.static Lib.Math.max.name, Cond.initialized "java/lang/Math", Cond.code Lib.Math.max.name Lib.Math.max.code 2 (some .int), Cond.methodLink RX4 70 yX4_leastExponent, Cond.static yX4_leastExponent, Cond.code yX4_leastExponent cX4_leastExponent 1 (some .int), Cond.methodLink RX4 44 yX4_withMore, Cond.static yX4_withMore, Cond.code yX4_withMore cX4_withMore 4 (some .long), Cond.methodLink RX4 32 yX4_nearest, Cond.static yX4_nearest, Cond.code yX4_nearest cX4_nearest 13 (some .long), Cond.methodLink RX4 13 yX4_endless, Cond.static yX4_endless, Cond.code yX4_endless cX4_endless 1 (some .long)]
def wsX4_quotient_r3 : List Cond := [Cond.constantLong RX4 86 (9218868437227405312), Cond.constantLong RX4 88 (2139095040), Cond.methodLink RX4 77 yX4_rounded, Cond.static yX4_rounded, Cond.code yX4_rounded cX4_rounded 10 (some .long)]
def wsX4_quotient : List Cond := .code yX4_quotient cX4_quotient 17 (some .long) :: ((wsX4_quotient_r1 ++ (wsX4_quotient_r2 ++ wsX4_quotient_r3)))
def wsX4_cutToLong_r1 : List Cond := [Cond.constantLong RX4 19 (-9223372036854775808), Cond.constantLong RX4 68 (9223372036854775807), Cond.methodLink RX4 21 yX4_mantissa, Cond.static yX4_mantissa, Cond.initialized RX4, Cond.code yX4_mantissa cX4_mantissa 7 (some .long), Cond.methodLink RX4 74 yX4_width, Cond.static yX4_width, Cond.code yX4_width cX4_width 1 (some .int), Cond.methodLink RX4 7 yX4_sizeOf, Cond.static yX4_sizeOf, Cond.code yX4_sizeOf cX4_sizeOf 3 (some .long), Cond.constantLong RX4 82 (2147483647), Cond.methodLink RX4 24 yX4_exponent, Cond.static yX4_exponent, Cond.code yX4_exponent cX4_exponent 4 (some .int), Cond.methodLink RX4 57 Lib.Math.max.name, Cond.static Lib.Math.max.name, Cond.initialized "java/lang/Math", Cond.code Lib.Math.max.name Lib.Math.max.code 2 (some .int), Cond.methodLink RX4 70 yX4_leastExponent, Cond.static yX4_leastExponent, Cond.code yX4_leastExponent cX4_leastExponent 1 (some .int), Cond.methodLink RX4 40 yX4_lengthOf]
def wsX4_cutToLong_r2 : List Cond := [Cond.static yX4_lengthOf, Cond.code yX4_lengthOf cX4_lengthOf 2 (some .int), Cond.methodLink RX4 54 yJ13_numberOfLeadingZeros_95d88, Cond.static yJ13_numberOfLeadingZeros_95d88, Cond.initialized RJ13, Cond.code yJ13_numberOfLeadingZeros_95d88 cJ13_numberOfLeadingZeros_95d88 3 (some .int), Cond.methodLink RJ13 308 yJ6_numberOfLeadingZeros_0f7a4, Cond.static yJ6_numberOfLeadingZeros_0f7a4, Cond.initialized RJ6, Cond.code yJ6_numberOfLeadingZeros_0f7a4 cJ6_numberOfLeadingZeros_0f7a4 2 (some .int), Cond.constant RJ6 264 (65536)]
def wsX4_cutToLong : List Cond := .code yX4_cutToLong cX4_cutToLong 8 (some .long) :: ((wsX4_cutToLong_r1 ++ wsX4_cutToLong_r2))
def wsX4_leftOver_r1 : List Cond := [Cond.methodLink RX4 57 Lib.Math.max.name, Cond.static Lib.Math.max.name, Cond.initialized "java/lang/Math", Cond.code Lib.Math.max.name Lib.Math.max.code 2 (some .int), Cond.methodLink RX4 61 Lib.Math.min.name, Cond.static Lib.Math.min.name, Cond.code Lib.Math.min.name Lib.Math.min.code 2 (some .int), Cond.methodLink RX4 21 yX4_mantissa, Cond.static yX4_mantissa, Cond.initialized RX4, Cond.code yX4_mantissa cX4_mantissa 7 (some .long), Cond.methodLink RX4 74 yX4_width, Cond.static yX4_width, Cond.code yX4_width cX4_width 1 (some .int), Cond.methodLink RX4 7 yX4_sizeOf, Cond.static yX4_sizeOf, Cond.code yX4_sizeOf cX4_sizeOf 3 (some .long), Cond.constantLong RX4 68 (9223372036854775807), Cond.constantLong RX4 82 (2147483647), Cond.methodLink RX4 54 yJ13_numberOfLeadingZeros_95d88, Cond.static yJ13_numberOfLeadingZeros_95d88, Cond.initialized RJ13, Cond.code yJ13_numberOfLeadingZeros_95d88 cJ13_numberOfLeadingZeros_95d88 3 (some .int), Cond.methodLink RJ13 308 yJ6_numberOfLeadingZeros_0f7a4]
def wsX4_leftOver_r2 : List Cond := [Cond.static yJ6_numberOfLeadingZeros_0f7a4, Cond.initialized RJ6, Cond.code yJ6_numberOfLeadingZeros_0f7a4 cJ6_numberOfLeadingZeros_0f7a4 2 (some .int), Cond.constant RJ6 264 (65536), Cond.methodLink RX4 24 yX4_exponent, Cond.static yX4_exponent, Cond.code yX4_exponent cX4_exponent 4 (some .int), Cond.methodLink RX4 70 yX4_leastExponent, Cond.static yX4_leastExponent, Cond.code yX4_leastExponent cX4_leastExponent 1 (some .int), Cond.methodLink RX4 32 yX4_nearest, Cond.static yX4_nearest, Cond.code yX4_nearest cX4_nearest 13 (some .long), Cond.methodLink RX4 36 yX4_signed, Cond.static yX4_signed, Cond.code yX4_signed cX4_signed 6 (some .long), Cond.constantLong RX4 19 (-9223372036854775808), Cond.constantLong RX4 84 (-2147483648), Cond.methodLink RX4 40 yX4_lengthOf, Cond.static yX4_lengthOf, Cond.code yX4_lengthOf cX4_lengthOf 2 (some .int), Cond.methodLink RX4 13 yX4_endless, Cond.static yX4_endless, Cond.code yX4_endless cX4_endless 1 (some .long)]
def wsX4_leftOver_r3 : List Cond := [Cond.constantLong RX4 86 (9218868437227405312), Cond.constantLong RX4 88 (2139095040), Cond.methodLink RX4 77 yX4_rounded, Cond.static yX4_rounded, Cond.code yX4_rounded cX4_rounded 10 (some .long)]
def wsX4_leftOver : List Cond := .code yX4_leftOver cX4_leftOver 11 (some .long) :: ((wsX4_leftOver_r1 ++ (wsX4_leftOver_r2 ++ wsX4_leftOver_r3)))
def wsX1_turnBy_r1 : List Cond := [Cond.fieldLink RX1 16 "OrreryDials$Dial" "fine" "Z", Cond.fieldLink RX1 7 "OrreryDials$Dial" "place" "J", Cond.fieldLink RX1 13 "OrreryDials$Dial" "laps" "J", Cond.fieldLink RX1 20 "OrreryDials$Dial" "rim" "J", Cond.methodLink RX1 23 yX4_sum, Cond.static yX4_sum, Cond.initialized RX4, Cond.code yX4_sum cX4_sum 19 (some .long), Cond.methodLink RX4 7 yX4_sizeOf, Cond.static yX4_sizeOf, Cond.code yX4_sizeOf cX4_sizeOf 3 (some .long), Cond.constantLong RX4 68 (9223372036854775807), Cond.constantLong RX4 82 (2147483647), Cond.methodLink RX4 21 yX4_mantissa, Cond.static yX4_mantissa, Cond.code yX4_mantissa cX4_mantissa 7 (some .long), Cond.methodLink RX4 74 yX4_width, Cond.static yX4_width, Cond.code yX4_width cX4_width 1 (some .int), Cond.methodLink RX4 24 yX4_exponent, Cond.static yX4_exponent, Cond.code yX4_exponent cX4_exponent 4 (some .int), Cond.methodLink RX4 57 Lib.Math.max.name, Cond.static Lib.Math.max.name]
def wsX1_turnBy_r2 : List Cond := [Cond.initialized "java/lang/Math", Cond.code Lib.Math.max.name Lib.Math.max.code 2 (some .int), Cond.methodLink RX4 70 yX4_leastExponent, Cond.static yX4_leastExponent, Cond.code yX4_leastExponent cX4_leastExponent 1 (some .int), Cond.methodLink RX4 28 yX4_shiftedOut, Cond.static yX4_shiftedOut, Cond.code yX4_shiftedOut cX4_shiftedOut 3 (some .long), Cond.methodLink RX4 44 yX4_withMore, Cond.static yX4_withMore, Cond.code yX4_withMore cX4_withMore 4 (some .long), Cond.methodLink RX4 32 yX4_nearest, Cond.static yX4_nearest, Cond.code yX4_nearest cX4_nearest 13 (some .long), Cond.methodLink RX4 36 yX4_signed, Cond.static yX4_signed, Cond.code yX4_signed cX4_signed 6 (some .long), Cond.constantLong RX4 19 (-9223372036854775808), Cond.constantLong RX4 84 (-2147483648), Cond.methodLink RX4 40 yX4_lengthOf, Cond.static yX4_lengthOf, Cond.code yX4_lengthOf cX4_lengthOf 2 (some .int), Cond.methodLink RX4 54 yJ13_numberOfLeadingZeros_95d88, Cond.static yJ13_numberOfLeadingZeros_95d88]
def wsX1_turnBy_r3 : List Cond := [Cond.initialized RJ13, Cond.code yJ13_numberOfLeadingZeros_95d88 cJ13_numberOfLeadingZeros_95d88 3 (some .int), Cond.methodLink RJ13 308 yJ6_numberOfLeadingZeros_0f7a4, Cond.static yJ6_numberOfLeadingZeros_0f7a4, Cond.initialized RJ6, Cond.code yJ6_numberOfLeadingZeros_0f7a4 cJ6_numberOfLeadingZeros_0f7a4 2 (some .int), Cond.constant RJ6 264 (65536), Cond.methodLink RX4 13 yX4_endless, Cond.static yX4_endless, Cond.code yX4_endless cX4_endless 1 (some .long), Cond.constantLong RX4 86 (9218868437227405312), Cond.constantLong RX4 88 (2139095040), Cond.methodLink RX4 77 yX4_rounded, Cond.static yX4_rounded, Cond.code yX4_rounded cX4_rounded 10 (some .long), Cond.methodLink RX1 29 yX4_isFit, Cond.static yX4_isFit, Cond.code yX4_isFit cX4_isFit 3 (some .boolean), Cond.methodLink RX1 33 yX4_quotient, Cond.static yX4_quotient, Cond.code yX4_quotient cX4_quotient 17 (some .long), Cond.methodLink RX1 36 yX4_cutToLong, Cond.static yX4_cutToLong, Cond.code yX4_cutToLong cX4_cutToLong 8 (some .long)]
def wsX1_turnBy_r4 : List Cond := [Cond.methodLink RX1 40 yX4_leftOver, Cond.static yX4_leftOver, Cond.code yX4_leftOver cX4_leftOver 11 (some .long), Cond.methodLink RX4 61 Lib.Math.min.name, Cond.static Lib.Math.min.name, Cond.code Lib.Math.min.name Lib.Math.min.code 2 (some .int)]
def wsX1_turnBy : List Cond := .code yX1_turnBy cX1_turnBy 5 (some .boolean) :: ((wsX1_turnBy_r1 ++ (wsX1_turnBy_r2 ++ (wsX1_turnBy_r3 ++ wsX1_turnBy_r4))) ++ wsX10)
def wsX4_ofReal_r1 : List Cond := [Cond.methodLink RX4 64 yX4_isFit, Cond.static yX4_isFit, Cond.initialized RX4, Cond.code yX4_isFit cX4_isFit 3 (some .boolean), Cond.methodLink RX4 7 yX4_sizeOf, Cond.static yX4_sizeOf, Cond.code yX4_sizeOf cX4_sizeOf 3 (some .long), Cond.constantLong RX4 68 (9223372036854775807), Cond.constantLong RX4 82 (2147483647), Cond.methodLink RX4 13 yX4_endless, Cond.static yX4_endless, Cond.code yX4_endless cX4_endless 1 (some .long), Cond.constantLong RX4 86 (9218868437227405312), Cond.constantLong RX4 88 (2139095040), Cond.methodLink RX4 36 yX4_signed, Cond.static yX4_signed, Cond.code yX4_signed cX4_signed 6 (some .long), Cond.constantLong RX4 19 (-9223372036854775808), Cond.constantLong RX4 84 (-2147483648), Cond.methodLink RX4 21 yX4_mantissa, Cond.static yX4_mantissa, Cond.code yX4_mantissa cX4_mantissa 7 (some .long), Cond.methodLink RX4 74 yX4_width, Cond.static yX4_width]
def wsX4_ofReal_r2 : List Cond := [Cond.code yX4_width cX4_width 1 (some .int), Cond.methodLink RX4 24 yX4_exponent, Cond.static yX4_exponent, Cond.code yX4_exponent cX4_exponent 4 (some .int), Cond.methodLink RX4 57 Lib.Math.max.name, Cond.static Lib.Math.max.name, Cond.initialized "java/lang/Math", Cond.code Lib.Math.max.name Lib.Math.max.code 2 (some .int), Cond.methodLink RX4 70 yX4_leastExponent, Cond.static yX4_leastExponent, Cond.code yX4_leastExponent cX4_leastExponent 1 (some .int), Cond.methodLink RX4 32 yX4_nearest, Cond.static yX4_nearest, Cond.code yX4_nearest cX4_nearest 13 (some .long), Cond.methodLink RX4 40 yX4_lengthOf, Cond.static yX4_lengthOf, Cond.code yX4_lengthOf cX4_lengthOf 2 (some .int), Cond.methodLink RX4 54 yJ13_numberOfLeadingZeros_95d88, Cond.static yJ13_numberOfLeadingZeros_95d88, Cond.initialized RJ13, Cond.code yJ13_numberOfLeadingZeros_95d88 cJ13_numberOfLeadingZeros_95d88 3 (some .int), Cond.methodLink RJ13 308 yJ6_numberOfLeadingZeros_0f7a4, Cond.static yJ6_numberOfLeadingZeros_0f7a4, Cond.initialized RJ6]
def wsX4_ofReal_r3 : List Cond := [Cond.code yJ6_numberOfLeadingZeros_0f7a4 cJ6_numberOfLeadingZeros_0f7a4 2 (some .int), Cond.constant RJ6 264 (65536), Cond.methodLink RX4 77 yX4_rounded, Cond.static yX4_rounded, Cond.code yX4_rounded cX4_rounded 10 (some .long)]
def wsX4_ofReal : List Cond := .code yX4_ofReal cX4_ofReal 4 (some .long) :: ((wsX4_ofReal_r1 ++ (wsX4_ofReal_r2 ++ wsX4_ofReal_r3)))
def wsX3_forceAt_r1 : List Cond := [Cond.fieldLink RX3 7 "OrreryDials$Flywheel" "pull" "J", Cond.sameField "OrreryDials$Flywheel" "OrreryDials$Drive" "pull" "J", Cond.fieldLink RX3 13 "OrreryDials$Flywheel" "gear" "I", Cond.sameField "OrreryDials$Flywheel" "OrreryDials$Crank" "gear" "I", Cond.fieldLink RX3 27 "OrreryDials$Flywheel" "pullCount" "I", Cond.sameField "OrreryDials$Flywheel" "OrreryDials$Drive" "pullCount" "I", Cond.methodLink RX3 17 yX4_timesInt, Cond.static yX4_timesInt, Cond.initialized RX4, Cond.code yX4_timesInt cX4_timesInt 4 (some .long), Cond.methodLink RX4 48 Lib.MathLoose.abs_long.x, Cond.static Lib.MathLoose.abs_long.x, Cond.initialized "java/lang/Math", Cond.code Lib.MathLoose.abs_long.x Lib.MathLoose.abs_long.code 2 (some .long), Cond.methodLink RX4 21 yX4_mantissa, Cond.static yX4_mantissa, Cond.code yX4_mantissa cX4_mantissa 7 (some .long), Cond.methodLink RX4 74 yX4_width, Cond.static yX4_width, Cond.code yX4_width cX4_width 1 (some .int), Cond.methodLink RX4 7 yX4_sizeOf, Cond.static yX4_sizeOf, Cond.code yX4_sizeOf cX4_sizeOf 3 (some .long), Cond.constantLong RX4 68 (9223372036854775807)]
def wsX3_forceAt_r2 : List Cond := [Cond.constantLong RX4 82 (2147483647), Cond.methodLink RX4 24 yX4_exponent, Cond.static yX4_exponent, Cond.code yX4_exponent cX4_exponent 4 (some .int), Cond.methodLink RX4 57 Lib.Math.max.name, Cond.static Lib.Math.max.name, Cond.code Lib.Math.max.name Lib.Math.max.code 2 (some .int), Cond.methodLink RX4 70 yX4_leastExponent, Cond.static yX4_leastExponent, Cond.code yX4_leastExponent cX4_leastExponent 1 (some .int), Cond.methodLink RX4 32 yX4_nearest, Cond.static yX4_nearest, Cond.code yX4_nearest cX4_nearest 13 (some .long), Cond.methodLink RX4 36 yX4_signed, Cond.static yX4_signed, Cond.code yX4_signed cX4_signed 6 (some .long), Cond.constantLong RX4 19 (-9223372036854775808), Cond.constantLong RX4 84 (-2147483648), Cond.methodLink RX4 40 yX4_lengthOf, Cond.static yX4_lengthOf, Cond.code yX4_lengthOf cX4_lengthOf 2 (some .int), Cond.methodLink RX4 54 yJ13_numberOfLeadingZeros_95d88, Cond.static yJ13_numberOfLeadingZeros_95d88, Cond.initialized RJ13]
def wsX3_forceAt_r3 : List Cond := [Cond.code yJ13_numberOfLeadingZeros_95d88 cJ13_numberOfLeadingZeros_95d88 3 (some .int), Cond.methodLink RJ13 308 yJ6_numberOfLeadingZeros_0f7a4, Cond.static yJ6_numberOfLeadingZeros_0f7a4, Cond.initialized RJ6, Cond.code yJ6_numberOfLeadingZeros_0f7a4 cJ6_numberOfLeadingZeros_0f7a4 2 (some .int), Cond.constant RJ6 264 (65536), Cond.methodLink RX4 13 yX4_endless, Cond.static yX4_endless, Cond.code yX4_endless cX4_endless 1 (some .long), Cond.constantLong RX4 86 (9218868437227405312), Cond.constantLong RX4 88 (2139095040), Cond.methodLink RX4 77 yX4_rounded, Cond.static yX4_rounded, Cond.code yX4_rounded cX4_rounded 10 (some .long), Cond.methodLink RX3 23 yX4_isFit, Cond.static yX4_isFit, Cond.code yX4_isFit cX4_isFit 3 (some .boolean), Cond.methodLink RX3 30 yX4_sum, Cond.static yX4_sum, Cond.code yX4_sum cX4_sum 19 (some .long), Cond.methodLink RX4 28 yX4_shiftedOut, Cond.static yX4_shiftedOut, Cond.code yX4_shiftedOut cX4_shiftedOut 3 (some .long), Cond.methodLink RX4 44 yX4_withMore]
def wsX3_forceAt_r4 : List Cond := [Cond.static yX4_withMore, Cond.code yX4_withMore cX4_withMore 4 (some .long)]
def wsX3_forceAt : List Cond := .code yX3_forceAt cX3_forceAt 7 (some .long) :: ((wsX3_forceAt_r1 ++ (wsX3_forceAt_r2 ++ (wsX3_forceAt_r3 ++ wsX3_forceAt_r4))) ++ wsX00 ++ wsX30 ++ wsX60)
def wsX4_negated : List Cond := .code yX4_negated cX4_negated 2 (some .long) :: ([.constantLong RX4 19 (-9223372036854775808)])
def wsX6_forceAt_r1 : List Cond := [Cond.fieldLink RX6 7 "OrreryDials$Spring" "pull" "J", Cond.sameField "OrreryDials$Spring" "OrreryDials$Drive" "pull" "J", Cond.methodLink RX6 13 yX4_negated, Cond.static yX4_negated, Cond.initialized RX4, Cond.code yX4_negated cX4_negated 2 (some .long), Cond.constantLong RX4 19 (-9223372036854775808), Cond.methodLink RX6 19 yX4_sum, Cond.static yX4_sum, Cond.code yX4_sum cX4_sum 19 (some .long), Cond.methodLink RX4 7 yX4_sizeOf, Cond.static yX4_sizeOf, Cond.code yX4_sizeOf cX4_sizeOf 3 (some .long), Cond.constantLong RX4 68 (9223372036854775807), Cond.constantLong RX4 82 (2147483647), Cond.methodLink RX4 21 yX4_mantissa, Cond.static yX4_mantissa, Cond.code yX4_mantissa cX4_mantissa 7 (some .long), Cond.methodLink RX4 74 yX4_width, Cond.static yX4_width, Cond.code yX4_width cX4_width 1 (some .int), Cond.methodLink RX4 24 yX4_exponent, Cond.static yX4_exponent, Cond.code yX4_exponent cX4_exponent 4 (some .int)]
def wsX6_forceAt_r2 : List Cond := [Cond.methodLink RX4 57 Lib.Math.max.name, Cond.static Lib.Math.max.name, Cond.initialized "java/lang/Math", Cond.code Lib.Math.max.name Lib.Math.max.code 2 (some .int), Cond.methodLink RX4 70 yX4_leastExponent, Cond.static yX4_leastExponent, Cond.code yX4_leastExponent cX4_leastExponent 1 (some .int), Cond.methodLink RX4 28 yX4_shiftedOut, Cond.static yX4_shiftedOut, Cond.code yX4_shiftedOut cX4_shiftedOut 3 (some .long), Cond.methodLink RX4 44 yX4_withMore, Cond.static yX4_withMore, Cond.code yX4_withMore cX4_withMore 4 (some .long), Cond.methodLink RX4 32 yX4_nearest, Cond.static yX4_nearest, Cond.code yX4_nearest cX4_nearest 13 (some .long), Cond.methodLink RX4 36 yX4_signed, Cond.static yX4_signed, Cond.code yX4_signed cX4_signed 6 (some .long), Cond.constantLong RX4 84 (-2147483648), Cond.methodLink RX4 40 yX4_lengthOf, Cond.static yX4_lengthOf, Cond.code yX4_lengthOf cX4_lengthOf 2 (some .int), Cond.methodLink RX4 54 yJ13_numberOfLeadingZeros_95d88]
def wsX6_forceAt_r3 : List Cond := [Cond.static yJ13_numberOfLeadingZeros_95d88, Cond.initialized RJ13, Cond.code yJ13_numberOfLeadingZeros_95d88 cJ13_numberOfLeadingZeros_95d88 3 (some .int), Cond.methodLink RJ13 308 yJ6_numberOfLeadingZeros_0f7a4, Cond.static yJ6_numberOfLeadingZeros_0f7a4, Cond.initialized RJ6, Cond.code yJ6_numberOfLeadingZeros_0f7a4 cJ6_numberOfLeadingZeros_0f7a4 2 (some .int), Cond.constant RJ6 264 (65536), Cond.methodLink RX4 13 yX4_endless, Cond.static yX4_endless, Cond.code yX4_endless cX4_endless 1 (some .long), Cond.constantLong RX4 86 (9218868437227405312), Cond.constantLong RX4 88 (2139095040), Cond.methodLink RX4 77 yX4_rounded, Cond.static yX4_rounded, Cond.code yX4_rounded cX4_rounded 10 (some .long)]
def wsX6_forceAt : List Cond := .code yX6_forceAt cX6_forceAt 3 (some .long) :: ((wsX6_forceAt_r1 ++ (wsX6_forceAt_r2 ++ wsX6_forceAt_r3)) ++ wsX00 ++ wsX30 ++ wsX60)
def wsX2_pullAt_r1 : List Cond := [Cond.fieldLink RX2 20 "OrreryDials$Dial" "fine" "Z", Cond.fieldLink RX2 26 "OrreryDials$Dial" "place" "J", Cond.fieldLink RX2 7 "OrreryDials$Drive" "pullCount" "I", Cond.methodLink RX2 29 yX4_ofReal, Cond.static yX4_ofReal, Cond.initialized RX4, Cond.code yX4_ofReal cX4_ofReal 4 (some .long), Cond.methodLink RX4 64 yX4_isFit, Cond.static yX4_isFit, Cond.code yX4_isFit cX4_isFit 3 (some .boolean), Cond.methodLink RX4 7 yX4_sizeOf, Cond.static yX4_sizeOf, Cond.code yX4_sizeOf cX4_sizeOf 3 (some .long), Cond.constantLong RX4 68 (9223372036854775807), Cond.constantLong RX4 82 (2147483647), Cond.methodLink RX4 13 yX4_endless, Cond.static yX4_endless, Cond.code yX4_endless cX4_endless 1 (some .long), Cond.constantLong RX4 86 (9218868437227405312), Cond.constantLong RX4 88 (2139095040), Cond.methodLink RX4 36 yX4_signed, Cond.static yX4_signed, Cond.code yX4_signed cX4_signed 6 (some .long), Cond.constantLong RX4 19 (-9223372036854775808)]
def wsX2_pullAt_r2 : List Cond := [Cond.constantLong RX4 84 (-2147483648), Cond.methodLink RX4 21 yX4_mantissa, Cond.static yX4_mantissa, Cond.code yX4_mantissa cX4_mantissa 7 (some .long), Cond.methodLink RX4 74 yX4_width, Cond.static yX4_width, Cond.code yX4_width cX4_width 1 (some .int), Cond.methodLink RX4 24 yX4_exponent, Cond.static yX4_exponent, Cond.code yX4_exponent cX4_exponent 4 (some .int), Cond.methodLink RX4 57 Lib.Math.max.name, Cond.static Lib.Math.max.name, Cond.initialized "java/lang/Math", Cond.code Lib.Math.max.name Lib.Math.max.code 2 (some .int), Cond.methodLink RX4 70 yX4_leastExponent, Cond.static yX4_leastExponent, Cond.code yX4_leastExponent cX4_leastExponent 1 (some .int), Cond.methodLink RX4 32 yX4_nearest, Cond.static yX4_nearest, Cond.code yX4_nearest cX4_nearest 13 (some .long), Cond.methodLink RX4 40 yX4_lengthOf, Cond.static yX4_lengthOf, Cond.code yX4_lengthOf cX4_lengthOf 2 (some .int), Cond.methodLink RX4 54 yJ13_numberOfLeadingZeros_95d88]
def wsX2_pullAt_r3 : List Cond := [Cond.static yJ13_numberOfLeadingZeros_95d88, Cond.initialized RJ13, Cond.code yJ13_numberOfLeadingZeros_95d88 cJ13_numberOfLeadingZeros_95d88 3 (some .int), Cond.methodLink RJ13 308 yJ6_numberOfLeadingZeros_0f7a4, Cond.static yJ6_numberOfLeadingZeros_0f7a4, Cond.initialized RJ6, Cond.code yJ6_numberOfLeadingZeros_0f7a4 cJ6_numberOfLeadingZeros_0f7a4 2 (some .int), Cond.constant RJ6 264 (65536), Cond.methodLink RX4 77 yX4_rounded, Cond.static yX4_rounded, Cond.code yX4_rounded cX4_rounded 10 (some .long), Cond.methodLink RX2 35 ⟨"OrreryDials$Drive", "forceAt", "(J)J"⟩, Cond.sameMethod "OrreryDials$Drive" "OrreryDials$Drive" "forceAt" "(J)J", Cond.selects RX0 ⟨"OrreryDials$Drive", "forceAt", "(J)J"⟩ yX0_forceAt, Cond.instanceMethod yX0_forceAt, Cond.initialized RX0, Cond.code yX0_forceAt cX0_forceAt 3 (some .long), Cond.fieldLink RX0 13 "OrreryDials$Crank" "pull" "J", Cond.sameField "OrreryDials$Crank" "OrreryDials$Drive" "pull" "J", Cond.fieldLink RX0 7 "OrreryDials$Crank" "gear" "I", Cond.methodLink RX0 17 yX4_timesInt, Cond.static yX4_timesInt, Cond.code yX4_timesInt cX4_timesInt 4 (some .long), Cond.methodLink RX4 48 Lib.MathLoose.abs_long.x]
def wsX2_pullAt_r4 : List Cond := [Cond.static Lib.MathLoose.abs_long.x, Cond.code Lib.MathLoose.abs_long.x Lib.MathLoose.abs_long.code 2 (some .long), Cond.selects RX3 ⟨"OrreryDials$Drive", "forceAt", "(J)J"⟩ yX3_forceAt, Cond.instanceMethod yX3_forceAt, Cond.initialized RX3, Cond.code yX3_forceAt cX3_forceAt 7 (some .long), Cond.fieldLink RX3 7 "OrreryDials$Flywheel" "pull" "J", Cond.sameField "OrreryDials$Flywheel" "OrreryDials$Drive" "pull" "J", Cond.fieldLink RX3 13 "OrreryDials$Flywheel" "gear" "I", Cond.sameField "OrreryDials$Flywheel" "OrreryDials$Crank" "gear" "I", Cond.fieldLink RX3 27 "OrreryDials$Flywheel" "pullCount" "I", Cond.sameField "OrreryDials$Flywheel" "OrreryDials$Drive" "pullCount" "I", Cond.methodLink RX3 17 yX4_timesInt, Cond.methodLink RX3 23 yX4_isFit, Cond.methodLink RX3 30 yX4_sum, Cond.static yX4_sum, Cond.code yX4_sum cX4_sum 19 (some .long), Cond.methodLink RX4 28 yX4_shiftedOut, Cond.static yX4_shiftedOut, Cond.code yX4_shiftedOut cX4_shiftedOut 3 (some .long), Cond.methodLink RX4 44 yX4_withMore, Cond.static yX4_withMore, Cond.code yX4_withMore cX4_withMore 4 (some .long), Cond.selects RX6 ⟨"OrreryDials$Drive", "forceAt", "(J)J"⟩ yX6_forceAt]
def wsX2_pullAt_r5 : List Cond := [Cond.instanceMethod yX6_forceAt, Cond.initialized RX6, Cond.code yX6_forceAt cX6_forceAt 3 (some .long), Cond.fieldLink RX6 7 "OrreryDials$Spring" "pull" "J", Cond.sameField "OrreryDials$Spring" "OrreryDials$Drive" "pull" "J", Cond.methodLink RX6 13 yX4_negated, Cond.static yX4_negated, Cond.code yX4_negated cX4_negated 2 (some .long), Cond.methodLink RX6 19 yX4_sum, Cond.methodLink RX2 39 yX4_isFit, Cond.methodLink RX2 43 yX1_turnBy, Cond.instanceMethod yX1_turnBy, Cond.selects RX1 yX1_turnBy yX1_turnBy, Cond.initialized RX1, Cond.code yX1_turnBy cX1_turnBy 5 (some .boolean), Cond.fieldLink RX1 16 "OrreryDials$Dial" "fine" "Z", Cond.fieldLink RX1 7 "OrreryDials$Dial" "place" "J", Cond.fieldLink RX1 13 "OrreryDials$Dial" "laps" "J", Cond.fieldLink RX1 20 "OrreryDials$Dial" "rim" "J", Cond.methodLink RX1 23 yX4_sum, Cond.methodLink RX1 29 yX4_isFit, Cond.methodLink RX1 33 yX4_quotient, Cond.static yX4_quotient, Cond.code yX4_quotient cX4_quotient 17 (some .long)]
def wsX2_pullAt_r6 : List Cond := [Cond.methodLink RX1 36 yX4_cutToLong, Cond.static yX4_cutToLong, Cond.code yX4_cutToLong cX4_cutToLong 8 (some .long), Cond.methodLink RX1 40 yX4_leftOver, Cond.static yX4_leftOver, Cond.code yX4_leftOver cX4_leftOver 11 (some .long), Cond.methodLink RX4 61 Lib.Math.min.name, Cond.static Lib.Math.min.name, Cond.code Lib.Math.min.name Lib.Math.min.code 2 (some .int)]
def wsX2_pullAt : List Cond := .code yX2_pullAt cX2_pullAt 6 (some .boolean) :: ((wsX2_pullAt_r1 ++ (wsX2_pullAt_r2 ++ (wsX2_pullAt_r3 ++ (wsX2_pullAt_r4 ++ (wsX2_pullAt_r5 ++ wsX2_pullAt_r6))))) ++ wsX10 ++ wsX00 ++ wsX30 ++ wsX60)
def wsX3_init : List Cond := .code yX3_init cX3_init 4 none :: ([.methodLink RX3 1 yX0_init, .instanceMethod yX0_init, .initialized RX0, .code yX0_init cX0_init 4 none, .fieldLink RX0 7 "OrreryDials$Crank" "gear" "I", .methodLink RX0 1 yX2_init, .instanceMethod yX2_init, .initialized RX2, .code yX2_init cX2_init 4 none, .methodLink RX2 1 objectInit, .instanceMethod objectInit, .code objectInit ⟨#[0xb1]⟩ 1 none, .fieldLink RX2 7 "OrreryDials$Drive" "pullCount" "I", .fieldLink RX2 13 "OrreryDials$Drive" "number" "I", .fieldLink RX2 16 "OrreryDials$Drive" "pull" "J"] ++ wsX00 ++ wsX30 ++ wsX60)
def wsX4_told : List Cond := .code yX4_told cX4_told 3 (some .long) :: ([])
def wsX4_isNumber : List Cond := .code yX4_isNumber cX4_isNumber 3 (some .boolean) :: ([.methodLink RX4 7 yX4_sizeOf, .static yX4_sizeOf, .initialized RX4, .code yX4_sizeOf cX4_sizeOf 3 (some .long), .constantLong RX4 68 (9223372036854775807), .constantLong RX4 82 (2147483647), .methodLink RX4 13 yX4_endless, .static yX4_endless, .code yX4_endless cX4_endless 1 (some .long), .constantLong RX4 86 (9218868437227405312), .constantLong RX4 88 (2139095040)])
def wsX4_isZero : List Cond := .code yX4_isZero cX4_isZero 3 (some .boolean) :: ([.methodLink RX4 7 yX4_sizeOf, .static yX4_sizeOf, .initialized RX4, .code yX4_sizeOf cX4_sizeOf 3 (some .long), .constantLong RX4 68 (9223372036854775807), .constantLong RX4 82 (2147483647)])
def wsX4_ofLong_r1 : List Cond := [Cond.methodLink RX4 48 Lib.MathLoose.abs_long.x, Cond.static Lib.MathLoose.abs_long.x, Cond.initialized "java/lang/Math", Cond.code Lib.MathLoose.abs_long.x Lib.MathLoose.abs_long.code 2 (some .long), Cond.methodLink RX4 32 yX4_nearest, Cond.static yX4_nearest, Cond.initialized RX4, Cond.code yX4_nearest cX4_nearest 13 (some .long), Cond.methodLink RX4 57 Lib.Math.max.name, Cond.static Lib.Math.max.name, Cond.code Lib.Math.max.name Lib.Math.max.code 2 (some .int), Cond.methodLink RX4 36 yX4_signed, Cond.static yX4_signed, Cond.code yX4_signed cX4_signed 6 (some .long), Cond.constantLong RX4 19 (-9223372036854775808), Cond.constantLong RX4 84 (-2147483648), Cond.methodLink RX4 70 yX4_leastExponent, Cond.static yX4_leastExponent, Cond.code yX4_leastExponent cX4_leastExponent 1 (some .int), Cond.methodLink RX4 40 yX4_lengthOf, Cond.static yX4_lengthOf, Cond.code yX4_lengthOf cX4_lengthOf 2 (some .int), Cond.methodLink RX4 54 yJ13_numberOfLeadingZeros_95d88, Cond.static yJ13_numberOfLeadingZeros_95d88]
def wsX4_ofLong_r2 : List Cond := [Cond.initialized RJ13, Cond.code yJ13_numberOfLeadingZeros_95d88 cJ13_numberOfLeadingZeros_95d88 3 (some .int), Cond.methodLink RJ13 308 yJ6_numberOfLeadingZeros_0f7a4, Cond.static yJ6_numberOfLeadingZeros_0f7a4, Cond.initialized RJ6, Cond.code yJ6_numberOfLeadingZeros_0f7a4 cJ6_numberOfLeadingZeros_0f7a4 2 (some .int), Cond.constant RJ6 264 (65536), Cond.methodLink RX4 74 yX4_width, Cond.static yX4_width, Cond.code yX4_width cX4_width 1 (some .int), Cond.methodLink RX4 13 yX4_endless, Cond.static yX4_endless, Cond.code yX4_endless cX4_endless 1 (some .long), Cond.constantLong RX4 86 (9218868437227405312), Cond.constantLong RX4 88 (2139095040), Cond.methodLink RX4 77 yX4_rounded, Cond.static yX4_rounded, Cond.code yX4_rounded cX4_rounded 10 (some .long)]
def wsX4_ofLong : List Cond := .code yX4_ofLong cX4_ofLong 3 (some .long) :: ((wsX4_ofLong_r1 ++ wsX4_ofLong_r2))
def wsX5_init : List Cond := .code yX5_init cX5_init 1 none :: ([.methodLink RX5 3 objectInit, .instanceMethod objectInit, .code objectInit ⟨#[0xb1]⟩ 1 none, .arrayClass .long, .fieldLink RX5 9 "OrreryDials$Row" "places" "[J", .fieldLink RX5 15 "OrreryDials$Row" "size" "I"] ++ wsX50)
def wsX5_renew : List Cond := .code yX5_renew cX5_renew 3 none :: ([.fieldLink RX5 9 "OrreryDials$Row" "places" "[J", .fieldLink RX5 15 "OrreryDials$Row" "size" "I"] ++ wsX50)
def wsX5_isMissing : List Cond := .code yX5_isMissing cX5_isMissing 1 (some .boolean) :: ([.fieldLink RX5 15 "OrreryDials$Row" "size" "I"] ++ wsX50)
def wsX5_failureAt : List Cond := .code yX5_failureAt cX5_failureAt 2 (some .int) :: ([.fieldLink RX5 15 "OrreryDials$Row" "size" "I", .methodLink RX5 19 yX5_isMissing, .instanceMethod yX5_isMissing, .selects RX5 yX5_isMissing yX5_isMissing, .initialized RX5, .code yX5_isMissing cX5_isMissing 1 (some .boolean)] ++ wsX50)
def wsX6_init : List Cond := .code yX6_init cX6_init 4 none :: ([.methodLink RX6 1 yX2_init, .instanceMethod yX2_init, .initialized RX2, .code yX2_init cX2_init 4 none, .methodLink RX2 1 objectInit, .instanceMethod objectInit, .code objectInit ⟨#[0xb1]⟩ 1 none, .fieldLink RX2 7 "OrreryDials$Drive" "pullCount" "I", .fieldLink RX2 13 "OrreryDials$Drive" "number" "I", .fieldLink RX2 16 "OrreryDials$Drive" "pull" "J"] ++ wsX00 ++ wsX30 ++ wsX60)
def wsX7_init_r1 : List Cond := [Cond.methodLink RX7 1 objectInit, Cond.instanceMethod objectInit, Cond.code objectInit ⟨#[0xb1]⟩ 1 none, Cond.classLink RX7 9 RX1, Cond.fieldLink RX7 11 "OrreryDials" "dials" "[LOrreryDials$Dial;", Cond.fieldLink RX7 15 "OrreryDials" "dialCount" "I", Cond.classLink RX7 19 RX2, Cond.fieldLink RX7 21 "OrreryDials" "drives" "[LOrreryDials$Drive;", Cond.fieldLink RX7 25 "OrreryDials" "driveCount" "I", Cond.fieldLink RX7 28 "OrreryDials" "slots" "[LOrreryDials$Drive;", Cond.fieldLink RX7 31 "OrreryDials" "shaftPlaces" "[LOrreryDials$Drive;", Cond.classLink RX7 34 RX5, Cond.fieldLink RX7 36 "OrreryDials" "rows" "[LOrreryDials$Row;", Cond.fieldLink RX7 40 "OrreryDials" "seenBits" "J", Cond.fieldLink RX7 44 "OrreryDials" "latestFailure" "I", Cond.arrayClass .int, Cond.fieldLink RX7 47 "OrreryDials" "failureCounts" "[I", Cond.instantiable RX5 2, Cond.initialized RX5, Cond.instanceMethod yX5_init, Cond.code yX5_init cX5_init 1 none, Cond.methodLink RX5 3 objectInit, Cond.arrayClass .long, Cond.fieldLink RX5 9 "OrreryDials$Row" "places" "[J"]
def wsX7_init_r2 : List Cond := [Cond.fieldLink RX5 15 "OrreryDials$Row" "size" "I"]
def wsX7_init : List Cond := .code yX7_init cX7_init 2 none :: ((wsX7_init_r1 ++ wsX7_init_r2) ++ wsX70 ++ wsX50)
def wsX7_dial_r1 : List Cond := [Cond.fieldLink RX7 15 "OrreryDials" "dialCount" "I", Cond.fieldLink RX7 11 "OrreryDials" "dials" "[LOrreryDials$Dial;", Cond.classLink RX7 9 RX1, Cond.instantiable RX1 4, Cond.initialized RX1, Cond.methodLink RX7 52 yX4_told, Cond.static yX4_told, Cond.initialized RX4, Cond.code yX4_told cX4_told 3 (some .long), Cond.methodLink RX7 58 yX4_isFit, Cond.static yX4_isFit, Cond.code yX4_isFit cX4_isFit 3 (some .boolean), Cond.methodLink RX4 7 yX4_sizeOf, Cond.static yX4_sizeOf, Cond.code yX4_sizeOf cX4_sizeOf 3 (some .long), Cond.constantLong RX4 68 (9223372036854775807), Cond.constantLong RX4 82 (2147483647), Cond.methodLink RX4 13 yX4_endless, Cond.static yX4_endless, Cond.code yX4_endless cX4_endless 1 (some .long), Cond.constantLong RX4 86 (9218868437227405312), Cond.constantLong RX4 88 (2139095040), Cond.methodLink RX7 62 yX4_isZero, Cond.static yX4_isZero]
def wsX7_dial_r2 : List Cond := [Cond.code yX4_isZero cX4_isZero 3 (some .boolean), Cond.methodLink RX7 65 yX1_init, Cond.instanceMethod yX1_init, Cond.code yX1_init cX1_init 4 none, Cond.methodLink RX1 1 objectInit, Cond.instanceMethod objectInit, Cond.code objectInit ⟨#[0xb1]⟩ 1 none, Cond.fieldLink RX1 7 "OrreryDials$Dial" "place" "J", Cond.fieldLink RX1 13 "OrreryDials$Dial" "laps" "J", Cond.fieldLink RX1 16 "OrreryDials$Dial" "fine" "Z", Cond.fieldLink RX1 20 "OrreryDials$Dial" "rim" "J"]
def wsX7_dial : List Cond := .code yX7_dial cX7_dial 6 (some .int) :: ((wsX7_dial_r1 ++ wsX7_dial_r2) ++ wsX70 ++ wsX10)
def wsX7_dialAt : List Cond := .code yX7_dialAt cX7_dialAt 2 (some (.object "OrreryDials$Dial")) :: ([.fieldLink RX7 15 "OrreryDials" "dialCount" "I", .fieldLink RX7 11 "OrreryDials" "dials" "[LOrreryDials$Dial;"] ++ wsX70)
def wsX7_done : List Cond := .code yX7_done cX7_done 2 (some .int) :: ([.fieldLink RX7 44 "OrreryDials" "latestFailure" "I"] ++ wsX70)
def wsX7_failWith : List Cond := .code yX7_failWith cX7_failWith 3 (some .int) :: ([.fieldLink RX7 44 "OrreryDials" "latestFailure" "I", .fieldLink RX7 47 "OrreryDials" "failureCounts" "[I"] ++ wsX70)
def wsX7_turn_r1 : List Cond := [Cond.fieldLink RX7 72 "OrreryDials$Dial" "fine" "Z", Cond.methodLink RX7 68 yX7_dialAt, Cond.instanceMethod yX7_dialAt, Cond.selects RX7 yX7_dialAt yX7_dialAt, Cond.initialized RX7, Cond.code yX7_dialAt cX7_dialAt 2 (some (.object "OrreryDials$Dial")), Cond.fieldLink RX7 15 "OrreryDials" "dialCount" "I", Cond.fieldLink RX7 11 "OrreryDials" "dials" "[LOrreryDials$Dial;", Cond.methodLink RX7 52 yX4_told, Cond.static yX4_told, Cond.initialized RX4, Cond.code yX4_told cX4_told 3 (some .long), Cond.methodLink RX7 58 yX4_isFit, Cond.static yX4_isFit, Cond.code yX4_isFit cX4_isFit 3 (some .boolean), Cond.methodLink RX4 7 yX4_sizeOf, Cond.static yX4_sizeOf, Cond.code yX4_sizeOf cX4_sizeOf 3 (some .long), Cond.constantLong RX4 68 (9223372036854775807), Cond.constantLong RX4 82 (2147483647), Cond.methodLink RX4 13 yX4_endless, Cond.static yX4_endless, Cond.code yX4_endless cX4_endless 1 (some .long), Cond.constantLong RX4 86 (9218868437227405312)]
def wsX7_turn_r2 : List Cond := [Cond.constantLong RX4 88 (2139095040), Cond.methodLink RX7 76 yX1_turnBy, Cond.instanceMethod yX1_turnBy, Cond.selects RX1 yX1_turnBy yX1_turnBy, Cond.initialized RX1, Cond.code yX1_turnBy cX1_turnBy 5 (some .boolean), Cond.fieldLink RX1 16 "OrreryDials$Dial" "fine" "Z", Cond.fieldLink RX1 7 "OrreryDials$Dial" "place" "J", Cond.fieldLink RX1 13 "OrreryDials$Dial" "laps" "J", Cond.fieldLink RX1 20 "OrreryDials$Dial" "rim" "J", Cond.methodLink RX1 23 yX4_sum, Cond.static yX4_sum, Cond.code yX4_sum cX4_sum 19 (some .long), Cond.methodLink RX4 21 yX4_mantissa, Cond.static yX4_mantissa, Cond.code yX4_mantissa cX4_mantissa 7 (some .long), Cond.methodLink RX4 74 yX4_width, Cond.static yX4_width, Cond.code yX4_width cX4_width 1 (some .int), Cond.methodLink RX4 24 yX4_exponent, Cond.static yX4_exponent, Cond.code yX4_exponent cX4_exponent 4 (some .int), Cond.methodLink RX4 57 Lib.Math.max.name, Cond.static Lib.Math.max.name]
def wsX7_turn_r3 : List Cond := [Cond.initialized "java/lang/Math", Cond.code Lib.Math.max.name Lib.Math.max.code 2 (some .int), Cond.methodLink RX4 70 yX4_leastExponent, Cond.static yX4_leastExponent, Cond.code yX4_leastExponent cX4_leastExponent 1 (some .int), Cond.methodLink RX4 28 yX4_shiftedOut, Cond.static yX4_shiftedOut, Cond.code yX4_shiftedOut cX4_shiftedOut 3 (some .long), Cond.methodLink RX4 44 yX4_withMore, Cond.static yX4_withMore, Cond.code yX4_withMore cX4_withMore 4 (some .long), Cond.methodLink RX4 32 yX4_nearest, Cond.static yX4_nearest, Cond.code yX4_nearest cX4_nearest 13 (some .long), Cond.methodLink RX4 36 yX4_signed, Cond.static yX4_signed, Cond.code yX4_signed cX4_signed 6 (some .long), Cond.constantLong RX4 19 (-9223372036854775808), Cond.constantLong RX4 84 (-2147483648), Cond.methodLink RX4 40 yX4_lengthOf, Cond.static yX4_lengthOf, Cond.code yX4_lengthOf cX4_lengthOf 2 (some .int), Cond.methodLink RX4 54 yJ13_numberOfLeadingZeros_95d88, Cond.static yJ13_numberOfLeadingZeros_95d88]
def wsX7_turn_r4 : List Cond := [Cond.initialized RJ13, Cond.code yJ13_numberOfLeadingZeros_95d88 cJ13_numberOfLeadingZeros_95d88 3 (some .int), Cond.methodLink RJ13 308 yJ6_numberOfLeadingZeros_0f7a4, Cond.static yJ6_numberOfLeadingZeros_0f7a4, Cond.initialized RJ6, Cond.code yJ6_numberOfLeadingZeros_0f7a4 cJ6_numberOfLeadingZeros_0f7a4 2 (some .int), Cond.constant RJ6 264 (65536), Cond.methodLink RX4 77 yX4_rounded, Cond.static yX4_rounded, Cond.code yX4_rounded cX4_rounded 10 (some .long), Cond.methodLink RX1 29 yX4_isFit, Cond.methodLink RX1 33 yX4_quotient, Cond.static yX4_quotient, Cond.code yX4_quotient cX4_quotient 17 (some .long), Cond.methodLink RX1 36 yX4_cutToLong, Cond.static yX4_cutToLong, Cond.code yX4_cutToLong cX4_cutToLong 8 (some .long), Cond.methodLink RX1 40 yX4_leftOver, Cond.static yX4_leftOver, Cond.code yX4_leftOver cX4_leftOver 11 (some .long), Cond.methodLink RX4 61 Lib.Math.min.name, Cond.static Lib.Math.min.name, Cond.code Lib.Math.min.name Lib.Math.min.code 2 (some .int), Cond.methodLink RX7 80 yX7_done]
def wsX7_turn_r5 : List Cond := [Cond.instanceMethod yX7_done, Cond.selects RX7 yX7_done yX7_done, Cond.code yX7_done cX7_done 2 (some .int), Cond.fieldLink RX7 44 "OrreryDials" "latestFailure" "I", Cond.methodLink RX7 84 yX7_failWith, Cond.instanceMethod yX7_failWith, Cond.selects RX7 yX7_failWith yX7_failWith, Cond.code yX7_failWith cX7_failWith 3 (some .int), Cond.fieldLink RX7 47 "OrreryDials" "failureCounts" "[I"]
def wsX7_turn : List Cond := .code yX7_turn cX7_turn 7 (some .int) :: ((wsX7_turn_r1 ++ (wsX7_turn_r2 ++ (wsX7_turn_r3 ++ (wsX7_turn_r4 ++ wsX7_turn_r5)))) ++ wsX10 ++ wsX70)
def wsX7_spin_r1 : List Cond := [Cond.fieldLink RX7 72 "OrreryDials$Dial" "fine" "Z", Cond.methodLink RX7 68 yX7_dialAt, Cond.instanceMethod yX7_dialAt, Cond.selects RX7 yX7_dialAt yX7_dialAt, Cond.initialized RX7, Cond.code yX7_dialAt cX7_dialAt 2 (some (.object "OrreryDials$Dial")), Cond.fieldLink RX7 15 "OrreryDials" "dialCount" "I", Cond.fieldLink RX7 11 "OrreryDials" "dials" "[LOrreryDials$Dial;", Cond.methodLink RX7 52 yX4_told, Cond.static yX4_told, Cond.initialized RX4, Cond.code yX4_told cX4_told 3 (some .long), Cond.methodLink RX7 58 yX4_isFit, Cond.static yX4_isFit, Cond.code yX4_isFit cX4_isFit 3 (some .boolean), Cond.methodLink RX4 7 yX4_sizeOf, Cond.static yX4_sizeOf, Cond.code yX4_sizeOf cX4_sizeOf 3 (some .long), Cond.constantLong RX4 68 (9223372036854775807), Cond.constantLong RX4 82 (2147483647), Cond.methodLink RX4 13 yX4_endless, Cond.static yX4_endless, Cond.code yX4_endless cX4_endless 1 (some .long), Cond.constantLong RX4 86 (9218868437227405312)]
def wsX7_spin_r2 : List Cond := [Cond.constantLong RX4 88 (2139095040), Cond.methodLink RX7 76 yX1_turnBy, Cond.instanceMethod yX1_turnBy, Cond.selects RX1 yX1_turnBy yX1_turnBy, Cond.initialized RX1, Cond.code yX1_turnBy cX1_turnBy 5 (some .boolean), Cond.fieldLink RX1 16 "OrreryDials$Dial" "fine" "Z", Cond.fieldLink RX1 7 "OrreryDials$Dial" "place" "J", Cond.fieldLink RX1 13 "OrreryDials$Dial" "laps" "J", Cond.fieldLink RX1 20 "OrreryDials$Dial" "rim" "J", Cond.methodLink RX1 23 yX4_sum, Cond.static yX4_sum, Cond.code yX4_sum cX4_sum 19 (some .long), Cond.methodLink RX4 21 yX4_mantissa, Cond.static yX4_mantissa, Cond.code yX4_mantissa cX4_mantissa 7 (some .long), Cond.methodLink RX4 74 yX4_width, Cond.static yX4_width, Cond.code yX4_width cX4_width 1 (some .int), Cond.methodLink RX4 24 yX4_exponent, Cond.static yX4_exponent, Cond.code yX4_exponent cX4_exponent 4 (some .int), Cond.methodLink RX4 57 Lib.Math.max.name, Cond.static Lib.Math.max.name]
def wsX7_spin_r3 : List Cond := [Cond.initialized "java/lang/Math", Cond.code Lib.Math.max.name Lib.Math.max.code 2 (some .int), Cond.methodLink RX4 70 yX4_leastExponent, Cond.static yX4_leastExponent, Cond.code yX4_leastExponent cX4_leastExponent 1 (some .int), Cond.methodLink RX4 28 yX4_shiftedOut, Cond.static yX4_shiftedOut, Cond.code yX4_shiftedOut cX4_shiftedOut 3 (some .long), Cond.methodLink RX4 44 yX4_withMore, Cond.static yX4_withMore, Cond.code yX4_withMore cX4_withMore 4 (some .long), Cond.methodLink RX4 32 yX4_nearest, Cond.static yX4_nearest, Cond.code yX4_nearest cX4_nearest 13 (some .long), Cond.methodLink RX4 36 yX4_signed, Cond.static yX4_signed, Cond.code yX4_signed cX4_signed 6 (some .long), Cond.constantLong RX4 19 (-9223372036854775808), Cond.constantLong RX4 84 (-2147483648), Cond.methodLink RX4 40 yX4_lengthOf, Cond.static yX4_lengthOf, Cond.code yX4_lengthOf cX4_lengthOf 2 (some .int), Cond.methodLink RX4 54 yJ13_numberOfLeadingZeros_95d88, Cond.static yJ13_numberOfLeadingZeros_95d88]
def wsX7_spin_r4 : List Cond := [Cond.initialized RJ13, Cond.code yJ13_numberOfLeadingZeros_95d88 cJ13_numberOfLeadingZeros_95d88 3 (some .int), Cond.methodLink RJ13 308 yJ6_numberOfLeadingZeros_0f7a4, Cond.static yJ6_numberOfLeadingZeros_0f7a4, Cond.initialized RJ6, Cond.code yJ6_numberOfLeadingZeros_0f7a4 cJ6_numberOfLeadingZeros_0f7a4 2 (some .int), Cond.constant RJ6 264 (65536), Cond.methodLink RX4 77 yX4_rounded, Cond.static yX4_rounded, Cond.code yX4_rounded cX4_rounded 10 (some .long), Cond.methodLink RX1 29 yX4_isFit, Cond.methodLink RX1 33 yX4_quotient, Cond.static yX4_quotient, Cond.code yX4_quotient cX4_quotient 17 (some .long), Cond.methodLink RX1 36 yX4_cutToLong, Cond.static yX4_cutToLong, Cond.code yX4_cutToLong cX4_cutToLong 8 (some .long), Cond.methodLink RX1 40 yX4_leftOver, Cond.static yX4_leftOver, Cond.code yX4_leftOver cX4_leftOver 11 (some .long), Cond.methodLink RX4 61 Lib.Math.min.name, Cond.static Lib.Math.min.name, Cond.code Lib.Math.min.name Lib.Math.min.code 2 (some .int), Cond.methodLink RX7 84 yX7_failWith]
def wsX7_spin_r5 : List Cond := [Cond.instanceMethod yX7_failWith, Cond.selects RX7 yX7_failWith yX7_failWith, Cond.code yX7_failWith cX7_failWith 3 (some .int), Cond.fieldLink RX7 44 "OrreryDials" "latestFailure" "I", Cond.fieldLink RX7 47 "OrreryDials" "failureCounts" "[I", Cond.methodLink RX7 80 yX7_done, Cond.instanceMethod yX7_done, Cond.selects RX7 yX7_done yX7_done, Cond.code yX7_done cX7_done 2 (some .int)]
def wsX7_spin : List Cond := .code yX7_spin cX7_spin 9 (some .int) :: ((wsX7_spin_r1 ++ (wsX7_spin_r2 ++ (wsX7_spin_r3 ++ (wsX7_spin_r4 ++ wsX7_spin_r5)))) ++ wsX10 ++ wsX70)
def wsX7_place : List Cond := .code yX7_place cX7_place 4 (some .long) :: ([.fieldLink RX7 87 "OrreryDials$Dial" "place" "J", .fieldLink RX7 90 "OrreryDials$Dial" "rim" "J", .methodLink RX7 68 yX7_dialAt, .instanceMethod yX7_dialAt, .selects RX7 yX7_dialAt yX7_dialAt, .initialized RX7, .code yX7_dialAt cX7_dialAt 2 (some (.object "OrreryDials$Dial")), .fieldLink RX7 15 "OrreryDials" "dialCount" "I", .fieldLink RX7 11 "OrreryDials" "dials" "[LOrreryDials$Dial;"] ++ wsX10 ++ wsX70)
def wsX7_laps : List Cond := .code yX7_laps cX7_laps 3 (some .long) :: ([.fieldLink RX7 93 "OrreryDials$Dial" "laps" "J", .methodLink RX7 68 yX7_dialAt, .instanceMethod yX7_dialAt, .selects RX7 yX7_dialAt yX7_dialAt, .initialized RX7, .code yX7_dialAt cX7_dialAt 2 (some (.object "OrreryDials$Dial")), .fieldLink RX7 15 "OrreryDials" "dialCount" "I", .fieldLink RX7 11 "OrreryDials" "dials" "[LOrreryDials$Dial;"] ++ wsX10 ++ wsX70)
def wsX7_fine : List Cond := .code yX7_fine cX7_fine 3 (some .int) :: ([.fieldLink RX7 72 "OrreryDials$Dial" "fine" "Z", .methodLink RX7 68 yX7_dialAt, .instanceMethod yX7_dialAt, .selects RX7 yX7_dialAt yX7_dialAt, .initialized RX7, .code yX7_dialAt cX7_dialAt 2 (some (.object "OrreryDials$Dial")), .fieldLink RX7 15 "OrreryDials" "dialCount" "I", .fieldLink RX7 11 "OrreryDials" "dials" "[LOrreryDials$Dial;"] ++ wsX10 ++ wsX70)
def wsX7_newDrive_r1 : List Cond := [Cond.classLink RX7 176 RX6, Cond.instantiable RX6 3, Cond.initialized RX6, Cond.classLink RX7 112 RX0, Cond.instantiable RX0 4, Cond.initialized RX0, Cond.classLink RX7 182 RX3, Cond.instantiable RX3 4, Cond.initialized RX3, Cond.methodLink RX7 178 yX6_init, Cond.instanceMethod yX6_init, Cond.code yX6_init cX6_init 4 none, Cond.methodLink RX6 1 yX2_init, Cond.instanceMethod yX2_init, Cond.initialized RX2, Cond.code yX2_init cX2_init 4 none, Cond.methodLink RX2 1 objectInit, Cond.instanceMethod objectInit, Cond.code objectInit ⟨#[0xb1]⟩ 1 none, Cond.fieldLink RX2 7 "OrreryDials$Drive" "pullCount" "I", Cond.fieldLink RX2 13 "OrreryDials$Drive" "number" "I", Cond.fieldLink RX2 16 "OrreryDials$Drive" "pull" "J", Cond.methodLink RX7 181 yX0_init, Cond.instanceMethod yX0_init]
def wsX7_newDrive_r2 : List Cond := [Cond.code yX0_init cX0_init 4 none, Cond.fieldLink RX0 7 "OrreryDials$Crank" "gear" "I", Cond.methodLink RX0 1 yX2_init, Cond.methodLink RX7 184 yX3_init, Cond.instanceMethod yX3_init, Cond.code yX3_init cX3_init 4 none, Cond.methodLink RX3 1 yX0_init]
def wsX7_newDrive : List Cond := .code yX7_newDrive cX7_newDrive 4 (some (.object "OrreryDials$Drive")) :: ((wsX7_newDrive_r1 ++ wsX7_newDrive_r2) ++ wsX60 ++ wsX00 ++ wsX30)
def wsX7_drive_r1 : List Cond := [Cond.fieldLink RX7 25 "OrreryDials" "driveCount" "I", Cond.fieldLink RX7 21 "OrreryDials" "drives" "[LOrreryDials$Drive;", Cond.methodLink RX7 58 yX4_isFit, Cond.static yX4_isFit, Cond.initialized RX4, Cond.code yX4_isFit cX4_isFit 3 (some .boolean), Cond.methodLink RX4 7 yX4_sizeOf, Cond.static yX4_sizeOf, Cond.code yX4_sizeOf cX4_sizeOf 3 (some .long), Cond.constantLong RX4 68 (9223372036854775807), Cond.constantLong RX4 82 (2147483647), Cond.methodLink RX4 13 yX4_endless, Cond.static yX4_endless, Cond.code yX4_endless cX4_endless 1 (some .long), Cond.constantLong RX4 86 (9218868437227405312), Cond.constantLong RX4 88 (2139095040), Cond.methodLink RX7 96 yX7_newDrive, Cond.static yX7_newDrive, Cond.initialized RX7, Cond.code yX7_newDrive cX7_newDrive 4 (some (.object "OrreryDials$Drive")), Cond.classLink RX7 176 RX6, Cond.instantiable RX6 3, Cond.initialized RX6, Cond.classLink RX7 112 RX0]
def wsX7_drive_r2 : List Cond := [Cond.instantiable RX0 4, Cond.initialized RX0, Cond.classLink RX7 182 RX3, Cond.instantiable RX3 4, Cond.initialized RX3, Cond.methodLink RX7 178 yX6_init, Cond.instanceMethod yX6_init, Cond.code yX6_init cX6_init 4 none, Cond.methodLink RX6 1 yX2_init, Cond.instanceMethod yX2_init, Cond.initialized RX2, Cond.code yX2_init cX2_init 4 none, Cond.methodLink RX2 1 objectInit, Cond.instanceMethod objectInit, Cond.code objectInit ⟨#[0xb1]⟩ 1 none, Cond.fieldLink RX2 7 "OrreryDials$Drive" "pullCount" "I", Cond.fieldLink RX2 13 "OrreryDials$Drive" "number" "I", Cond.fieldLink RX2 16 "OrreryDials$Drive" "pull" "J", Cond.methodLink RX7 181 yX0_init, Cond.instanceMethod yX0_init, Cond.code yX0_init cX0_init 4 none, Cond.fieldLink RX0 7 "OrreryDials$Crank" "gear" "I", Cond.methodLink RX0 1 yX2_init, Cond.methodLink RX7 184 yX3_init]
def wsX7_drive_r3 : List Cond := [Cond.instanceMethod yX3_init, Cond.code yX3_init cX3_init 4 none, Cond.methodLink RX3 1 yX0_init]
def wsX7_drive : List Cond := .code yX7_drive cX7_drive 4 (some .int) :: ((wsX7_drive_r1 ++ (wsX7_drive_r2 ++ wsX7_drive_r3)) ++ wsX70 ++ wsX60 ++ wsX00 ++ wsX30)
def wsX7_driveAt : List Cond := .code yX7_driveAt cX7_driveAt 2 (some (.object "OrreryDials$Drive")) :: ([.fieldLink RX7 25 "OrreryDials" "driveCount" "I", .fieldLink RX7 21 "OrreryDials" "drives" "[LOrreryDials$Drive;"] ++ wsX70)
def wsX7_isSlot : List Cond := .code yX7_isSlot cX7_isSlot 1 (some .boolean) :: ([])
def wsX7_fit : List Cond := .code yX7_fit cX7_fit 4 (some .int) :: ([.fieldLink RX7 28 "OrreryDials" "slots" "[LOrreryDials$Drive;", .methodLink RX7 100 yX7_driveAt, .instanceMethod yX7_driveAt, .selects RX7 yX7_driveAt yX7_driveAt, .initialized RX7, .code yX7_driveAt cX7_driveAt 2 (some (.object "OrreryDials$Drive")), .fieldLink RX7 25 "OrreryDials" "driveCount" "I", .fieldLink RX7 21 "OrreryDials" "drives" "[LOrreryDials$Drive;", .methodLink RX7 104 yX7_isSlot, .static yX7_isSlot, .code yX7_isSlot cX7_isSlot 1 (some .boolean)] ++ wsX70)
def wsX7_pull_r1 : List Cond := [Cond.fieldLink RX7 28 "OrreryDials" "slots" "[LOrreryDials$Drive;", Cond.methodLink RX7 68 yX7_dialAt, Cond.instanceMethod yX7_dialAt, Cond.selects RX7 yX7_dialAt yX7_dialAt, Cond.initialized RX7, Cond.code yX7_dialAt cX7_dialAt 2 (some (.object "OrreryDials$Dial")), Cond.fieldLink RX7 15 "OrreryDials" "dialCount" "I", Cond.fieldLink RX7 11 "OrreryDials" "dials" "[LOrreryDials$Dial;", Cond.methodLink RX7 104 yX7_isSlot, Cond.static yX7_isSlot, Cond.code yX7_isSlot cX7_isSlot 1 (some .boolean), Cond.methodLink RX7 84 yX7_failWith, Cond.instanceMethod yX7_failWith, Cond.selects RX7 yX7_failWith yX7_failWith, Cond.code yX7_failWith cX7_failWith 3 (some .int), Cond.fieldLink RX7 44 "OrreryDials" "latestFailure" "I", Cond.fieldLink RX7 47 "OrreryDials" "failureCounts" "[I", Cond.methodLink RX7 108 ⟨"OrreryDials$Drive", "pullAt", "(LOrreryDials$Dial;)Z"⟩, Cond.sameMethod "OrreryDials$Drive" "OrreryDials$Drive" "pullAt" "(LOrreryDials$Dial;)Z", Cond.selects RX0 ⟨"OrreryDials$Drive", "pullAt", "(LOrreryDials$Dial;)Z"⟩ yX2_pullAt, Cond.instanceMethod yX2_pullAt, Cond.initialized RX2, Cond.code yX2_pullAt cX2_pullAt 6 (some .boolean), Cond.fieldLink RX2 20 "OrreryDials$Dial" "fine" "Z"]
def wsX7_pull_r2 : List Cond := [Cond.fieldLink RX2 26 "OrreryDials$Dial" "place" "J", Cond.fieldLink RX2 7 "OrreryDials$Drive" "pullCount" "I", Cond.methodLink RX2 29 yX4_ofReal, Cond.static yX4_ofReal, Cond.initialized RX4, Cond.code yX4_ofReal cX4_ofReal 4 (some .long), Cond.methodLink RX4 64 yX4_isFit, Cond.static yX4_isFit, Cond.code yX4_isFit cX4_isFit 3 (some .boolean), Cond.methodLink RX4 7 yX4_sizeOf, Cond.static yX4_sizeOf, Cond.code yX4_sizeOf cX4_sizeOf 3 (some .long), Cond.constantLong RX4 68 (9223372036854775807), Cond.constantLong RX4 82 (2147483647), Cond.methodLink RX4 13 yX4_endless, Cond.static yX4_endless, Cond.code yX4_endless cX4_endless 1 (some .long), Cond.constantLong RX4 86 (9218868437227405312), Cond.constantLong RX4 88 (2139095040), Cond.methodLink RX4 36 yX4_signed, Cond.static yX4_signed, Cond.code yX4_signed cX4_signed 6 (some .long), Cond.constantLong RX4 19 (-9223372036854775808), Cond.constantLong RX4 84 (-2147483648)]
def wsX7_pull_r3 : List Cond := [Cond.methodLink RX4 21 yX4_mantissa, Cond.static yX4_mantissa, Cond.code yX4_mantissa cX4_mantissa 7 (some .long), Cond.methodLink RX4 74 yX4_width, Cond.static yX4_width, Cond.code yX4_width cX4_width 1 (some .int), Cond.methodLink RX4 24 yX4_exponent, Cond.static yX4_exponent, Cond.code yX4_exponent cX4_exponent 4 (some .int), Cond.methodLink RX4 57 Lib.Math.max.name, Cond.static Lib.Math.max.name, Cond.initialized "java/lang/Math", Cond.code Lib.Math.max.name Lib.Math.max.code 2 (some .int), Cond.methodLink RX4 70 yX4_leastExponent, Cond.static yX4_leastExponent, Cond.code yX4_leastExponent cX4_leastExponent 1 (some .int), Cond.methodLink RX4 32 yX4_nearest, Cond.static yX4_nearest, Cond.code yX4_nearest cX4_nearest 13 (some .long), Cond.methodLink RX4 40 yX4_lengthOf, Cond.static yX4_lengthOf, Cond.code yX4_lengthOf cX4_lengthOf 2 (some .int), Cond.methodLink RX4 54 yJ13_numberOfLeadingZeros_95d88, Cond.static yJ13_numberOfLeadingZeros_95d88]
def wsX7_pull_r4 : List Cond := [Cond.initialized RJ13, Cond.code yJ13_numberOfLeadingZeros_95d88 cJ13_numberOfLeadingZeros_95d88 3 (some .int), Cond.methodLink RJ13 308 yJ6_numberOfLeadingZeros_0f7a4, Cond.static yJ6_numberOfLeadingZeros_0f7a4, Cond.initialized RJ6, Cond.code yJ6_numberOfLeadingZeros_0f7a4 cJ6_numberOfLeadingZeros_0f7a4 2 (some .int), Cond.constant RJ6 264 (65536), Cond.methodLink RX4 77 yX4_rounded, Cond.static yX4_rounded, Cond.code yX4_rounded cX4_rounded 10 (some .long), Cond.methodLink RX2 35 ⟨"OrreryDials$Drive", "forceAt", "(J)J"⟩, Cond.sameMethod "OrreryDials$Drive" "OrreryDials$Drive" "forceAt" "(J)J", Cond.selects RX0 ⟨"OrreryDials$Drive", "forceAt", "(J)J"⟩ yX0_forceAt, Cond.instanceMethod yX0_forceAt, Cond.initialized RX0, Cond.code yX0_forceAt cX0_forceAt 3 (some .long), Cond.fieldLink RX0 13 "OrreryDials$Crank" "pull" "J", Cond.sameField "OrreryDials$Crank" "OrreryDials$Drive" "pull" "J", Cond.fieldLink RX0 7 "OrreryDials$Crank" "gear" "I", Cond.methodLink RX0 17 yX4_timesInt, Cond.static yX4_timesInt, Cond.code yX4_timesInt cX4_timesInt 4 (some .long), Cond.methodLink RX4 48 Lib.MathLoose.abs_long.x, Cond.static Lib.MathLoose.abs_long.x]
def wsX7_pull_r5 : List Cond := [Cond.code Lib.MathLoose.abs_long.x Lib.MathLoose.abs_long.code 2 (some .long), Cond.selects RX3 ⟨"OrreryDials$Drive", "forceAt", "(J)J"⟩ yX3_forceAt, Cond.instanceMethod yX3_forceAt, Cond.initialized RX3, Cond.code yX3_forceAt cX3_forceAt 7 (some .long), Cond.fieldLink RX3 7 "OrreryDials$Flywheel" "pull" "J", Cond.sameField "OrreryDials$Flywheel" "OrreryDials$Drive" "pull" "J", Cond.fieldLink RX3 13 "OrreryDials$Flywheel" "gear" "I", Cond.sameField "OrreryDials$Flywheel" "OrreryDials$Crank" "gear" "I", Cond.fieldLink RX3 27 "OrreryDials$Flywheel" "pullCount" "I", Cond.sameField "OrreryDials$Flywheel" "OrreryDials$Drive" "pullCount" "I", Cond.methodLink RX3 17 yX4_timesInt, Cond.methodLink RX3 23 yX4_isFit, Cond.methodLink RX3 30 yX4_sum, Cond.static yX4_sum, Cond.code yX4_sum cX4_sum 19 (some .long), Cond.methodLink RX4 28 yX4_shiftedOut, Cond.static yX4_shiftedOut, Cond.code yX4_shiftedOut cX4_shiftedOut 3 (some .long), Cond.methodLink RX4 44 yX4_withMore, Cond.static yX4_withMore, Cond.code yX4_withMore cX4_withMore 4 (some .long), Cond.selects RX6 ⟨"OrreryDials$Drive", "forceAt", "(J)J"⟩ yX6_forceAt, Cond.instanceMethod yX6_forceAt]
def wsX7_pull_r6 : List Cond := [Cond.initialized RX6, Cond.code yX6_forceAt cX6_forceAt 3 (some .long), Cond.fieldLink RX6 7 "OrreryDials$Spring" "pull" "J", Cond.sameField "OrreryDials$Spring" "OrreryDials$Drive" "pull" "J", Cond.methodLink RX6 13 yX4_negated, Cond.static yX4_negated, Cond.code yX4_negated cX4_negated 2 (some .long), Cond.methodLink RX6 19 yX4_sum, Cond.methodLink RX2 39 yX4_isFit, Cond.methodLink RX2 43 yX1_turnBy, Cond.instanceMethod yX1_turnBy, Cond.selects RX1 yX1_turnBy yX1_turnBy, Cond.initialized RX1, Cond.code yX1_turnBy cX1_turnBy 5 (some .boolean), Cond.fieldLink RX1 16 "OrreryDials$Dial" "fine" "Z", Cond.fieldLink RX1 7 "OrreryDials$Dial" "place" "J", Cond.fieldLink RX1 13 "OrreryDials$Dial" "laps" "J", Cond.fieldLink RX1 20 "OrreryDials$Dial" "rim" "J", Cond.methodLink RX1 23 yX4_sum, Cond.methodLink RX1 29 yX4_isFit, Cond.methodLink RX1 33 yX4_quotient, Cond.static yX4_quotient, Cond.code yX4_quotient cX4_quotient 17 (some .long), Cond.methodLink RX1 36 yX4_cutToLong]
def wsX7_pull_r7 : List Cond := [Cond.static yX4_cutToLong, Cond.code yX4_cutToLong cX4_cutToLong 8 (some .long), Cond.methodLink RX1 40 yX4_leftOver, Cond.static yX4_leftOver, Cond.code yX4_leftOver cX4_leftOver 11 (some .long), Cond.methodLink RX4 61 Lib.Math.min.name, Cond.static Lib.Math.min.name, Cond.code Lib.Math.min.name Lib.Math.min.code 2 (some .int), Cond.selects RX3 ⟨"OrreryDials$Drive", "pullAt", "(LOrreryDials$Dial;)Z"⟩ yX2_pullAt, Cond.selects RX6 ⟨"OrreryDials$Drive", "pullAt", "(LOrreryDials$Dial;)Z"⟩ yX2_pullAt, Cond.methodLink RX7 80 yX7_done, Cond.instanceMethod yX7_done, Cond.selects RX7 yX7_done yX7_done, Cond.code yX7_done cX7_done 2 (some .int)]
def wsX7_pull : List Cond := .code yX7_pull cX7_pull 5 (some .int) :: ((wsX7_pull_r1 ++ (wsX7_pull_r2 ++ (wsX7_pull_r3 ++ (wsX7_pull_r4 ++ (wsX7_pull_r5 ++ (wsX7_pull_r6 ++ wsX7_pull_r7)))))) ++ wsX70 ++ wsX10 ++ wsX00 ++ wsX30 ++ wsX60)
def wsX7_gear : List Cond := .code yX7_gear cX7_gear 6 (some .int) :: ([.fieldLink RX7 28 "OrreryDials" "slots" "[LOrreryDials$Drive;", .classLink RX7 112 "OrreryDials$Crank", .fieldLink RX7 114 "OrreryDials$Crank" "gear" "I", .methodLink RX7 104 yX7_isSlot, .static yX7_isSlot, .initialized RX7, .code yX7_isSlot cX7_isSlot 1 (some .boolean), .methodLink RX7 84 yX7_failWith, .instanceMethod yX7_failWith, .selects RX7 yX7_failWith yX7_failWith, .code yX7_failWith cX7_failWith 3 (some .int), .fieldLink RX7 44 "OrreryDials" "latestFailure" "I", .fieldLink RX7 47 "OrreryDials" "failureCounts" "[I", .methodLink RX7 80 yX7_done, .instanceMethod yX7_done, .selects RX7 yX7_done yX7_done, .code yX7_done cX7_done 2 (some .int)] ++ wsX70 ++ wsX00 ++ wsX30)
def wsX7_isShaft : List Cond := .code yX7_isShaft cX7_isShaft 1 (some .boolean) :: ([])
def wsX7_isShaftPlace : List Cond := .code yX7_isShaftPlace cX7_isShaftPlace 1 (some .boolean) :: ([])
def wsX7_lay : List Cond := .code yX7_lay cX7_lay 5 (some .int) :: ([.fieldLink RX7 28 "OrreryDials" "slots" "[LOrreryDials$Drive;", .classLink RX7 112 "OrreryDials$Crank", .fieldLink RX7 31 "OrreryDials" "shaftPlaces" "[LOrreryDials$Drive;", .methodLink RX7 117 yX7_isShaft, .static yX7_isShaft, .initialized RX7, .code yX7_isShaft cX7_isShaft 1 (some .boolean), .methodLink RX7 104 yX7_isSlot, .static yX7_isSlot, .code yX7_isSlot cX7_isSlot 1 (some .boolean), .methodLink RX7 120 yX7_isShaftPlace, .static yX7_isShaftPlace, .code yX7_isShaftPlace cX7_isShaftPlace 1 (some .boolean), .methodLink RX7 84 yX7_failWith, .instanceMethod yX7_failWith, .selects RX7 yX7_failWith yX7_failWith, .code yX7_failWith cX7_failWith 3 (some .int), .fieldLink RX7 44 "OrreryDials" "latestFailure" "I", .fieldLink RX7 47 "OrreryDials" "failureCounts" "[I", .methodLink RX7 80 yX7_done, .instanceMethod yX7_done, .selects RX7 yX7_done yX7_done, .code yX7_done cX7_done 2 (some .int)] ++ wsX70)
def wsX7_wind_r1 : List Cond := [Cond.fieldLink RX7 31 "OrreryDials" "shaftPlaces" "[LOrreryDials$Drive;", Cond.methodLink RX7 68 yX7_dialAt, Cond.instanceMethod yX7_dialAt, Cond.selects RX7 yX7_dialAt yX7_dialAt, Cond.initialized RX7, Cond.code yX7_dialAt cX7_dialAt 2 (some (.object "OrreryDials$Dial")), Cond.fieldLink RX7 15 "OrreryDials" "dialCount" "I", Cond.fieldLink RX7 11 "OrreryDials" "dials" "[LOrreryDials$Dial;", Cond.methodLink RX7 117 yX7_isShaft, Cond.static yX7_isShaft, Cond.code yX7_isShaft cX7_isShaft 1 (some .boolean), Cond.methodLink RX7 84 yX7_failWith, Cond.instanceMethod yX7_failWith, Cond.selects RX7 yX7_failWith yX7_failWith, Cond.code yX7_failWith cX7_failWith 3 (some .int), Cond.fieldLink RX7 44 "OrreryDials" "latestFailure" "I", Cond.fieldLink RX7 47 "OrreryDials" "failureCounts" "[I", Cond.methodLink RX7 108 ⟨"OrreryDials$Drive", "pullAt", "(LOrreryDials$Dial;)Z"⟩, Cond.sameMethod "OrreryDials$Drive" "OrreryDials$Drive" "pullAt" "(LOrreryDials$Dial;)Z", Cond.selects RX0 ⟨"OrreryDials$Drive", "pullAt", "(LOrreryDials$Dial;)Z"⟩ yX2_pullAt, Cond.instanceMethod yX2_pullAt, Cond.initialized RX2, Cond.code yX2_pullAt cX2_pullAt 6 (some .boolean), Cond.fieldLink RX2 20 "OrreryDials$Dial" "fine" "Z"]
def wsX7_wind_r2 : List Cond := [Cond.fieldLink RX2 26 "OrreryDials$Dial" "place" "J", Cond.fieldLink RX2 7 "OrreryDials$Drive" "pullCount" "I", Cond.methodLink RX2 29 yX4_ofReal, Cond.static yX4_ofReal, Cond.initialized RX4, Cond.code yX4_ofReal cX4_ofReal 4 (some .long), Cond.methodLink RX4 64 yX4_isFit, Cond.static yX4_isFit, Cond.code yX4_isFit cX4_isFit 3 (some .boolean), Cond.methodLink RX4 7 yX4_sizeOf, Cond.static yX4_sizeOf, Cond.code yX4_sizeOf cX4_sizeOf 3 (some .long), Cond.constantLong RX4 68 (9223372036854775807), Cond.constantLong RX4 82 (2147483647), Cond.methodLink RX4 13 yX4_endless, Cond.static yX4_endless, Cond.code yX4_endless cX4_endless 1 (some .long), Cond.constantLong RX4 86 (9218868437227405312), Cond.constantLong RX4 88 (2139095040), Cond.methodLink RX4 36 yX4_signed, Cond.static yX4_signed, Cond.code yX4_signed cX4_signed 6 (some .long), Cond.constantLong RX4 19 (-9223372036854775808), Cond.constantLong RX4 84 (-2147483648)]
def wsX7_wind_r3 : List Cond := [Cond.methodLink RX4 21 yX4_mantissa, Cond.static yX4_mantissa, Cond.code yX4_mantissa cX4_mantissa 7 (some .long), Cond.methodLink RX4 74 yX4_width, Cond.static yX4_width, Cond.code yX4_width cX4_width 1 (some .int), Cond.methodLink RX4 24 yX4_exponent, Cond.static yX4_exponent, Cond.code yX4_exponent cX4_exponent 4 (some .int), Cond.methodLink RX4 57 Lib.Math.max.name, Cond.static Lib.Math.max.name, Cond.initialized "java/lang/Math", Cond.code Lib.Math.max.name Lib.Math.max.code 2 (some .int), Cond.methodLink RX4 70 yX4_leastExponent, Cond.static yX4_leastExponent, Cond.code yX4_leastExponent cX4_leastExponent 1 (some .int), Cond.methodLink RX4 32 yX4_nearest, Cond.static yX4_nearest, Cond.code yX4_nearest cX4_nearest 13 (some .long), Cond.methodLink RX4 40 yX4_lengthOf, Cond.static yX4_lengthOf, Cond.code yX4_lengthOf cX4_lengthOf 2 (some .int), Cond.methodLink RX4 54 yJ13_numberOfLeadingZeros_95d88, Cond.static yJ13_numberOfLeadingZeros_95d88]
def wsX7_wind_r4 : List Cond := [Cond.initialized RJ13, Cond.code yJ13_numberOfLeadingZeros_95d88 cJ13_numberOfLeadingZeros_95d88 3 (some .int), Cond.methodLink RJ13 308 yJ6_numberOfLeadingZeros_0f7a4, Cond.static yJ6_numberOfLeadingZeros_0f7a4, Cond.initialized RJ6, Cond.code yJ6_numberOfLeadingZeros_0f7a4 cJ6_numberOfLeadingZeros_0f7a4 2 (some .int), Cond.constant RJ6 264 (65536), Cond.methodLink RX4 77 yX4_rounded, Cond.static yX4_rounded, Cond.code yX4_rounded cX4_rounded 10 (some .long), Cond.methodLink RX2 35 ⟨"OrreryDials$Drive", "forceAt", "(J)J"⟩, Cond.sameMethod "OrreryDials$Drive" "OrreryDials$Drive" "forceAt" "(J)J", Cond.selects RX0 ⟨"OrreryDials$Drive", "forceAt", "(J)J"⟩ yX0_forceAt, Cond.instanceMethod yX0_forceAt, Cond.initialized RX0, Cond.code yX0_forceAt cX0_forceAt 3 (some .long), Cond.fieldLink RX0 13 "OrreryDials$Crank" "pull" "J", Cond.sameField "OrreryDials$Crank" "OrreryDials$Drive" "pull" "J", Cond.fieldLink RX0 7 "OrreryDials$Crank" "gear" "I", Cond.methodLink RX0 17 yX4_timesInt, Cond.static yX4_timesInt, Cond.code yX4_timesInt cX4_timesInt 4 (some .long), Cond.methodLink RX4 48 Lib.MathLoose.abs_long.x, Cond.static Lib.MathLoose.abs_long.x]
def wsX7_wind_r5 : List Cond := [Cond.code Lib.MathLoose.abs_long.x Lib.MathLoose.abs_long.code 2 (some .long), Cond.selects RX3 ⟨"OrreryDials$Drive", "forceAt", "(J)J"⟩ yX3_forceAt, Cond.instanceMethod yX3_forceAt, Cond.initialized RX3, Cond.code yX3_forceAt cX3_forceAt 7 (some .long), Cond.fieldLink RX3 7 "OrreryDials$Flywheel" "pull" "J", Cond.sameField "OrreryDials$Flywheel" "OrreryDials$Drive" "pull" "J", Cond.fieldLink RX3 13 "OrreryDials$Flywheel" "gear" "I", Cond.sameField "OrreryDials$Flywheel" "OrreryDials$Crank" "gear" "I", Cond.fieldLink RX3 27 "OrreryDials$Flywheel" "pullCount" "I", Cond.sameField "OrreryDials$Flywheel" "OrreryDials$Drive" "pullCount" "I", Cond.methodLink RX3 17 yX4_timesInt, Cond.methodLink RX3 23 yX4_isFit, Cond.methodLink RX3 30 yX4_sum, Cond.static yX4_sum, Cond.code yX4_sum cX4_sum 19 (some .long), Cond.methodLink RX4 28 yX4_shiftedOut, Cond.static yX4_shiftedOut, Cond.code yX4_shiftedOut cX4_shiftedOut 3 (some .long), Cond.methodLink RX4 44 yX4_withMore, Cond.static yX4_withMore, Cond.code yX4_withMore cX4_withMore 4 (some .long), Cond.selects RX6 ⟨"OrreryDials$Drive", "forceAt", "(J)J"⟩ yX6_forceAt, Cond.instanceMethod yX6_forceAt]
def wsX7_wind_r6 : List Cond := [Cond.initialized RX6, Cond.code yX6_forceAt cX6_forceAt 3 (some .long), Cond.fieldLink RX6 7 "OrreryDials$Spring" "pull" "J", Cond.sameField "OrreryDials$Spring" "OrreryDials$Drive" "pull" "J", Cond.methodLink RX6 13 yX4_negated, Cond.static yX4_negated, Cond.code yX4_negated cX4_negated 2 (some .long), Cond.methodLink RX6 19 yX4_sum, Cond.methodLink RX2 39 yX4_isFit, Cond.methodLink RX2 43 yX1_turnBy, Cond.instanceMethod yX1_turnBy, Cond.selects RX1 yX1_turnBy yX1_turnBy, Cond.initialized RX1, Cond.code yX1_turnBy cX1_turnBy 5 (some .boolean), Cond.fieldLink RX1 16 "OrreryDials$Dial" "fine" "Z", Cond.fieldLink RX1 7 "OrreryDials$Dial" "place" "J", Cond.fieldLink RX1 13 "OrreryDials$Dial" "laps" "J", Cond.fieldLink RX1 20 "OrreryDials$Dial" "rim" "J", Cond.methodLink RX1 23 yX4_sum, Cond.methodLink RX1 29 yX4_isFit, Cond.methodLink RX1 33 yX4_quotient, Cond.static yX4_quotient, Cond.code yX4_quotient cX4_quotient 17 (some .long), Cond.methodLink RX1 36 yX4_cutToLong]
def wsX7_wind_r7 : List Cond := [Cond.static yX4_cutToLong, Cond.code yX4_cutToLong cX4_cutToLong 8 (some .long), Cond.methodLink RX1 40 yX4_leftOver, Cond.static yX4_leftOver, Cond.code yX4_leftOver cX4_leftOver 11 (some .long), Cond.methodLink RX4 61 Lib.Math.min.name, Cond.static Lib.Math.min.name, Cond.code Lib.Math.min.name Lib.Math.min.code 2 (some .int), Cond.selects RX3 ⟨"OrreryDials$Drive", "pullAt", "(LOrreryDials$Dial;)Z"⟩ yX2_pullAt, Cond.selects RX6 ⟨"OrreryDials$Drive", "pullAt", "(LOrreryDials$Dial;)Z"⟩ yX2_pullAt, Cond.methodLink RX7 80 yX7_done, Cond.instanceMethod yX7_done, Cond.selects RX7 yX7_done yX7_done, Cond.code yX7_done cX7_done 2 (some .int)]
def wsX7_wind : List Cond := .code yX7_wind cX7_wind 6 (some .int) :: ((wsX7_wind_r1 ++ (wsX7_wind_r2 ++ (wsX7_wind_r3 ++ (wsX7_wind_r4 ++ (wsX7_wind_r5 ++ (wsX7_wind_r6 ++ wsX7_wind_r7)))))) ++ wsX70 ++ wsX10 ++ wsX00 ++ wsX30 ++ wsX60)
def wsX7_laid : List Cond := .code yX7_laid cX7_laid 4 (some .int) :: ([.fieldLink RX7 31 "OrreryDials" "shaftPlaces" "[LOrreryDials$Drive;", .fieldLink RX7 123 "OrreryDials$Drive" "number" "I", .methodLink RX7 117 yX7_isShaft, .static yX7_isShaft, .initialized RX7, .code yX7_isShaft cX7_isShaft 1 (some .boolean), .methodLink RX7 120 yX7_isShaftPlace, .static yX7_isShaftPlace, .code yX7_isShaftPlace cX7_isShaftPlace 1 (some .boolean), .methodLink RX7 84 yX7_failWith, .instanceMethod yX7_failWith, .selects RX7 yX7_failWith yX7_failWith, .code yX7_failWith cX7_failWith 3 (some .int), .fieldLink RX7 44 "OrreryDials" "latestFailure" "I", .fieldLink RX7 47 "OrreryDials" "failureCounts" "[I", .methodLink RX7 80 yX7_done, .instanceMethod yX7_done, .selects RX7 yX7_done yX7_done, .code yX7_done cX7_done 2 (some .int)] ++ wsX70 ++ wsX00 ++ wsX30 ++ wsX60)
def wsX7_pulls : List Cond := .code yX7_pulls cX7_pulls 3 (some .int) :: ([.fieldLink RX7 126 "OrreryDials$Drive" "pullCount" "I", .methodLink RX7 100 yX7_driveAt, .instanceMethod yX7_driveAt, .selects RX7 yX7_driveAt yX7_driveAt, .initialized RX7, .code yX7_driveAt cX7_driveAt 2 (some (.object "OrreryDials$Drive")), .fieldLink RX7 25 "OrreryDials" "driveCount" "I", .fieldLink RX7 21 "OrreryDials" "drives" "[LOrreryDials$Drive;"] ++ wsX00 ++ wsX30 ++ wsX60 ++ wsX70)
def wsX7_rowAt : List Cond := .code yX7_rowAt cX7_rowAt 3 (some (.object "OrreryDials$Row")) :: ([.fieldLink RX7 36 "OrreryDials" "rows" "[LOrreryDials$Row;"] ++ wsX70)
def wsX7_log : List Cond := .code yX7_log cX7_log 5 (some .int) :: ([.methodLink RX7 129 yX7_rowAt, .instanceMethod yX7_rowAt, .selects RX7 yX7_rowAt yX7_rowAt, .initialized RX7, .code yX7_rowAt cX7_rowAt 3 (some (.object "OrreryDials$Row")), .fieldLink RX7 36 "OrreryDials" "rows" "[LOrreryDials$Row;", .methodLink RX7 133 yX5_renew, .instanceMethod yX5_renew, .selects RX5 yX5_renew yX5_renew, .initialized RX5, .code yX5_renew cX5_renew 3 none, .fieldLink RX5 9 "OrreryDials$Row" "places" "[J", .fieldLink RX5 15 "OrreryDials$Row" "size" "I"] ++ wsX70 ++ wsX50)
def wsX7_write_r1 : List Cond := [Cond.fieldLink RX7 140 "OrreryDials$Row" "places" "[J", Cond.methodLink RX7 129 yX7_rowAt, Cond.instanceMethod yX7_rowAt, Cond.selects RX7 yX7_rowAt yX7_rowAt, Cond.initialized RX7, Cond.code yX7_rowAt cX7_rowAt 3 (some (.object "OrreryDials$Row")), Cond.fieldLink RX7 36 "OrreryDials" "rows" "[LOrreryDials$Row;", Cond.methodLink RX7 52 yX4_told, Cond.static yX4_told, Cond.initialized RX4, Cond.code yX4_told cX4_told 3 (some .long), Cond.methodLink RX7 58 yX4_isFit, Cond.static yX4_isFit, Cond.code yX4_isFit cX4_isFit 3 (some .boolean), Cond.methodLink RX4 7 yX4_sizeOf, Cond.static yX4_sizeOf, Cond.code yX4_sizeOf cX4_sizeOf 3 (some .long), Cond.constantLong RX4 68 (9223372036854775807), Cond.constantLong RX4 82 (2147483647), Cond.methodLink RX4 13 yX4_endless, Cond.static yX4_endless, Cond.code yX4_endless cX4_endless 1 (some .long), Cond.constantLong RX4 86 (9218868437227405312), Cond.constantLong RX4 88 (2139095040)]
def wsX7_write_r2 : List Cond := [Cond.methodLink RX7 137 yX5_failureAt, Cond.instanceMethod yX5_failureAt, Cond.selects RX5 yX5_failureAt yX5_failureAt, Cond.initialized RX5, Cond.code yX5_failureAt cX5_failureAt 2 (some .int), Cond.fieldLink RX5 15 "OrreryDials$Row" "size" "I", Cond.methodLink RX5 19 yX5_isMissing, Cond.instanceMethod yX5_isMissing, Cond.selects RX5 yX5_isMissing yX5_isMissing, Cond.code yX5_isMissing cX5_isMissing 1 (some .boolean), Cond.methodLink RX7 84 yX7_failWith, Cond.instanceMethod yX7_failWith, Cond.selects RX7 yX7_failWith yX7_failWith, Cond.code yX7_failWith cX7_failWith 3 (some .int), Cond.fieldLink RX7 44 "OrreryDials" "latestFailure" "I", Cond.fieldLink RX7 47 "OrreryDials" "failureCounts" "[I", Cond.methodLink RX7 80 yX7_done, Cond.instanceMethod yX7_done, Cond.selects RX7 yX7_done yX7_done, Cond.code yX7_done cX7_done 2 (some .int)]
def wsX7_write : List Cond := .code yX7_write cX7_write 10 (some .int) :: ((wsX7_write_r1 ++ wsX7_write_r2) ++ wsX50 ++ wsX70)
def wsX7_read_r1 : List Cond := [Cond.fieldLink RX7 140 "OrreryDials$Row" "places" "[J", Cond.fieldLink RX7 40 "OrreryDials" "seenBits" "J", Cond.methodLink RX7 129 yX7_rowAt, Cond.instanceMethod yX7_rowAt, Cond.selects RX7 yX7_rowAt yX7_rowAt, Cond.initialized RX7, Cond.code yX7_rowAt cX7_rowAt 3 (some (.object "OrreryDials$Row")), Cond.fieldLink RX7 36 "OrreryDials" "rows" "[LOrreryDials$Row;", Cond.methodLink RX7 137 yX5_failureAt, Cond.instanceMethod yX5_failureAt, Cond.selects RX5 yX5_failureAt yX5_failureAt, Cond.initialized RX5, Cond.code yX5_failureAt cX5_failureAt 2 (some .int), Cond.fieldLink RX5 15 "OrreryDials$Row" "size" "I", Cond.methodLink RX5 19 yX5_isMissing, Cond.instanceMethod yX5_isMissing, Cond.selects RX5 yX5_isMissing yX5_isMissing, Cond.code yX5_isMissing cX5_isMissing 1 (some .boolean), Cond.methodLink RX7 84 yX7_failWith, Cond.instanceMethod yX7_failWith, Cond.selects RX7 yX7_failWith yX7_failWith, Cond.code yX7_failWith cX7_failWith 3 (some .int), Cond.fieldLink RX7 44 "OrreryDials" "latestFailure" "I", Cond.fieldLink RX7 47 "OrreryDials" "failureCounts" "[I"]
def wsX7_read_r2 : List Cond := [Cond.methodLink RX7 80 yX7_done, Cond.instanceMethod yX7_done, Cond.selects RX7 yX7_done yX7_done, Cond.code yX7_done cX7_done 2 (some .int)]
def wsX7_read : List Cond := .code yX7_read cX7_read 6 (some .int) :: ((wsX7_read_r1 ++ wsX7_read_r2) ++ wsX50 ++ wsX70)
def wsX7_seen : List Cond := .code yX7_seen cX7_seen 1 (some .long) :: ([.fieldLink RX7 40 "OrreryDials" "seenBits" "J"] ++ wsX70)
def wsX7_note_r1 : List Cond := [Cond.fieldLink RX7 140 "OrreryDials$Row" "places" "[J", Cond.fieldLink RX7 72 "OrreryDials$Dial" "fine" "Z", Cond.fieldLink RX7 87 "OrreryDials$Dial" "place" "J", Cond.methodLink RX7 129 yX7_rowAt, Cond.instanceMethod yX7_rowAt, Cond.selects RX7 yX7_rowAt yX7_rowAt, Cond.initialized RX7, Cond.code yX7_rowAt cX7_rowAt 3 (some (.object "OrreryDials$Row")), Cond.fieldLink RX7 36 "OrreryDials" "rows" "[LOrreryDials$Row;", Cond.methodLink RX7 68 yX7_dialAt, Cond.instanceMethod yX7_dialAt, Cond.selects RX7 yX7_dialAt yX7_dialAt, Cond.code yX7_dialAt cX7_dialAt 2 (some (.object "OrreryDials$Dial")), Cond.fieldLink RX7 15 "OrreryDials" "dialCount" "I", Cond.fieldLink RX7 11 "OrreryDials" "dials" "[LOrreryDials$Dial;", Cond.methodLink RX7 137 yX5_failureAt, Cond.instanceMethod yX5_failureAt, Cond.selects RX5 yX5_failureAt yX5_failureAt, Cond.initialized RX5, Cond.code yX5_failureAt cX5_failureAt 2 (some .int), Cond.fieldLink RX5 15 "OrreryDials$Row" "size" "I", Cond.methodLink RX5 19 yX5_isMissing, Cond.instanceMethod yX5_isMissing, Cond.selects RX5 yX5_isMissing yX5_isMissing]
def wsX7_note_r2 : List Cond := [Cond.code yX5_isMissing cX5_isMissing 1 (some .boolean), Cond.methodLink RX7 84 yX7_failWith, Cond.instanceMethod yX7_failWith, Cond.selects RX7 yX7_failWith yX7_failWith, Cond.code yX7_failWith cX7_failWith 3 (some .int), Cond.fieldLink RX7 44 "OrreryDials" "latestFailure" "I", Cond.fieldLink RX7 47 "OrreryDials" "failureCounts" "[I", Cond.methodLink RX7 144 yX4_ofReal, Cond.static yX4_ofReal, Cond.initialized RX4, Cond.code yX4_ofReal cX4_ofReal 4 (some .long), Cond.methodLink RX4 64 yX4_isFit, Cond.static yX4_isFit, Cond.code yX4_isFit cX4_isFit 3 (some .boolean), Cond.methodLink RX4 7 yX4_sizeOf, Cond.static yX4_sizeOf, Cond.code yX4_sizeOf cX4_sizeOf 3 (some .long), Cond.constantLong RX4 68 (9223372036854775807), Cond.constantLong RX4 82 (2147483647), Cond.methodLink RX4 13 yX4_endless, Cond.static yX4_endless, Cond.code yX4_endless cX4_endless 1 (some .long), Cond.constantLong RX4 86 (9218868437227405312), Cond.constantLong RX4 88 (2139095040)]
def wsX7_note_r3 : List Cond := [Cond.methodLink RX4 36 yX4_signed, Cond.static yX4_signed, Cond.code yX4_signed cX4_signed 6 (some .long), Cond.constantLong RX4 19 (-9223372036854775808), Cond.constantLong RX4 84 (-2147483648), Cond.methodLink RX4 21 yX4_mantissa, Cond.static yX4_mantissa, Cond.code yX4_mantissa cX4_mantissa 7 (some .long), Cond.methodLink RX4 74 yX4_width, Cond.static yX4_width, Cond.code yX4_width cX4_width 1 (some .int), Cond.methodLink RX4 24 yX4_exponent, Cond.static yX4_exponent, Cond.code yX4_exponent cX4_exponent 4 (some .int), Cond.methodLink RX4 57 Lib.Math.max.name, Cond.static Lib.Math.max.name, Cond.initialized "java/lang/Math", Cond.code Lib.Math.max.name Lib.Math.max.code 2 (some .int), Cond.methodLink RX4 70 yX4_leastExponent, Cond.static yX4_leastExponent, Cond.code yX4_leastExponent cX4_leastExponent 1 (some .int), Cond.methodLink RX4 32 yX4_nearest, Cond.static yX4_nearest, Cond.code yX4_nearest cX4_nearest 13 (some .long)]
def wsX7_note_r4 : List Cond := [Cond.methodLink RX4 40 yX4_lengthOf, Cond.static yX4_lengthOf, Cond.code yX4_lengthOf cX4_lengthOf 2 (some .int), Cond.methodLink RX4 54 yJ13_numberOfLeadingZeros_95d88, Cond.static yJ13_numberOfLeadingZeros_95d88, Cond.initialized RJ13, Cond.code yJ13_numberOfLeadingZeros_95d88 cJ13_numberOfLeadingZeros_95d88 3 (some .int), Cond.methodLink RJ13 308 yJ6_numberOfLeadingZeros_0f7a4, Cond.static yJ6_numberOfLeadingZeros_0f7a4, Cond.initialized RJ6, Cond.code yJ6_numberOfLeadingZeros_0f7a4 cJ6_numberOfLeadingZeros_0f7a4 2 (some .int), Cond.constant RJ6 264 (65536), Cond.methodLink RX4 77 yX4_rounded, Cond.static yX4_rounded, Cond.code yX4_rounded cX4_rounded 10 (some .long), Cond.methodLink RX7 80 yX7_done, Cond.instanceMethod yX7_done, Cond.selects RX7 yX7_done yX7_done, Cond.code yX7_done cX7_done 2 (some .int)]
def wsX7_note : List Cond := .code yX7_note cX7_note 8 (some .int) :: ((wsX7_note_r1 ++ (wsX7_note_r2 ++ (wsX7_note_r3 ++ wsX7_note_r4))) ++ wsX50 ++ wsX10 ++ wsX70)
def wsX7_recall_r1 : List Cond := [Cond.fieldLink RX7 72 "OrreryDials$Dial" "fine" "Z", Cond.fieldLink RX7 140 "OrreryDials$Row" "places" "[J", Cond.fieldLink RX7 90 "OrreryDials$Dial" "rim" "J", Cond.fieldLink RX7 87 "OrreryDials$Dial" "place" "J", Cond.methodLink RX7 129 yX7_rowAt, Cond.instanceMethod yX7_rowAt, Cond.selects RX7 yX7_rowAt yX7_rowAt, Cond.initialized RX7, Cond.code yX7_rowAt cX7_rowAt 3 (some (.object "OrreryDials$Row")), Cond.fieldLink RX7 36 "OrreryDials" "rows" "[LOrreryDials$Row;", Cond.methodLink RX7 68 yX7_dialAt, Cond.instanceMethod yX7_dialAt, Cond.selects RX7 yX7_dialAt yX7_dialAt, Cond.code yX7_dialAt cX7_dialAt 2 (some (.object "OrreryDials$Dial")), Cond.fieldLink RX7 15 "OrreryDials" "dialCount" "I", Cond.fieldLink RX7 11 "OrreryDials" "dials" "[LOrreryDials$Dial;", Cond.methodLink RX7 137 yX5_failureAt, Cond.instanceMethod yX5_failureAt, Cond.selects RX5 yX5_failureAt yX5_failureAt, Cond.initialized RX5, Cond.code yX5_failureAt cX5_failureAt 2 (some .int), Cond.fieldLink RX5 15 "OrreryDials$Row" "size" "I", Cond.methodLink RX5 19 yX5_isMissing, Cond.instanceMethod yX5_isMissing]
def wsX7_recall_r2 : List Cond := [Cond.selects RX5 yX5_isMissing yX5_isMissing, Cond.code yX5_isMissing cX5_isMissing 1 (some .boolean), Cond.methodLink RX7 84 yX7_failWith, Cond.instanceMethod yX7_failWith, Cond.selects RX7 yX7_failWith yX7_failWith, Cond.code yX7_failWith cX7_failWith 3 (some .int), Cond.fieldLink RX7 44 "OrreryDials" "latestFailure" "I", Cond.fieldLink RX7 47 "OrreryDials" "failureCounts" "[I", Cond.methodLink RX7 144 yX4_ofReal, Cond.static yX4_ofReal, Cond.initialized RX4, Cond.code yX4_ofReal cX4_ofReal 4 (some .long), Cond.methodLink RX4 64 yX4_isFit, Cond.static yX4_isFit, Cond.code yX4_isFit cX4_isFit 3 (some .boolean), Cond.methodLink RX4 7 yX4_sizeOf, Cond.static yX4_sizeOf, Cond.code yX4_sizeOf cX4_sizeOf 3 (some .long), Cond.constantLong RX4 68 (9223372036854775807), Cond.constantLong RX4 82 (2147483647), Cond.methodLink RX4 13 yX4_endless, Cond.static yX4_endless, Cond.code yX4_endless cX4_endless 1 (some .long), Cond.constantLong RX4 86 (9218868437227405312)]
def wsX7_recall_r3 : List Cond := [Cond.constantLong RX4 88 (2139095040), Cond.methodLink RX4 36 yX4_signed, Cond.static yX4_signed, Cond.code yX4_signed cX4_signed 6 (some .long), Cond.constantLong RX4 19 (-9223372036854775808), Cond.constantLong RX4 84 (-2147483648), Cond.methodLink RX4 21 yX4_mantissa, Cond.static yX4_mantissa, Cond.code yX4_mantissa cX4_mantissa 7 (some .long), Cond.methodLink RX4 74 yX4_width, Cond.static yX4_width, Cond.code yX4_width cX4_width 1 (some .int), Cond.methodLink RX4 24 yX4_exponent, Cond.static yX4_exponent, Cond.code yX4_exponent cX4_exponent 4 (some .int), Cond.methodLink RX4 57 Lib.Math.max.name, Cond.static Lib.Math.max.name, Cond.initialized "java/lang/Math", Cond.code Lib.Math.max.name Lib.Math.max.code 2 (some .int), Cond.methodLink RX4 70 yX4_leastExponent, Cond.static yX4_leastExponent, Cond.code yX4_leastExponent cX4_leastExponent 1 (some .int), Cond.methodLink RX4 32 yX4_nearest, Cond.static yX4_nearest]
def wsX7_recall_r4 : List Cond := [Cond.code yX4_nearest cX4_nearest 13 (some .long), Cond.methodLink RX4 40 yX4_lengthOf, Cond.static yX4_lengthOf, Cond.code yX4_lengthOf cX4_lengthOf 2 (some .int), Cond.methodLink RX4 54 yJ13_numberOfLeadingZeros_95d88, Cond.static yJ13_numberOfLeadingZeros_95d88, Cond.initialized RJ13, Cond.code yJ13_numberOfLeadingZeros_95d88 cJ13_numberOfLeadingZeros_95d88 3 (some .int), Cond.methodLink RJ13 308 yJ6_numberOfLeadingZeros_0f7a4, Cond.static yJ6_numberOfLeadingZeros_0f7a4, Cond.initialized RJ6, Cond.code yJ6_numberOfLeadingZeros_0f7a4 cJ6_numberOfLeadingZeros_0f7a4 2 (some .int), Cond.constant RJ6 264 (65536), Cond.methodLink RX4 77 yX4_rounded, Cond.static yX4_rounded, Cond.code yX4_rounded cX4_rounded 10 (some .long), Cond.methodLink RX7 58 yX4_isFit, Cond.methodLink RX7 148 yX4_leftOver, Cond.static yX4_leftOver, Cond.code yX4_leftOver cX4_leftOver 11 (some .long), Cond.methodLink RX4 61 Lib.Math.min.name, Cond.static Lib.Math.min.name, Cond.code Lib.Math.min.name Lib.Math.min.code 2 (some .int), Cond.methodLink RX7 80 yX7_done]
def wsX7_recall_r5 : List Cond := [Cond.instanceMethod yX7_done, Cond.selects RX7 yX7_done yX7_done, Cond.code yX7_done cX7_done 2 (some .int)]
def wsX7_recall : List Cond := .code yX7_recall cX7_recall 10 (some .int) :: ((wsX7_recall_r1 ++ (wsX7_recall_r2 ++ (wsX7_recall_r3 ++ (wsX7_recall_r4 ++ wsX7_recall_r5)))) ++ wsX10 ++ wsX50 ++ wsX70)
def wsX7_sift_r1 : List Cond := [Cond.fieldLink RX7 156 "OrreryDials$Row" "size" "I", Cond.fieldLink RX7 140 "OrreryDials$Row" "places" "[J", Cond.fieldLink RX7 40 "OrreryDials" "seenBits" "J", Cond.methodLink RX7 129 yX7_rowAt, Cond.instanceMethod yX7_rowAt, Cond.selects RX7 yX7_rowAt yX7_rowAt, Cond.initialized RX7, Cond.code yX7_rowAt cX7_rowAt 3 (some (.object "OrreryDials$Row")), Cond.fieldLink RX7 36 "OrreryDials" "rows" "[LOrreryDials$Row;", Cond.methodLink RX7 52 yX4_told, Cond.static yX4_told, Cond.initialized RX4, Cond.code yX4_told cX4_told 3 (some .long), Cond.methodLink RX7 58 yX4_isFit, Cond.static yX4_isFit, Cond.code yX4_isFit cX4_isFit 3 (some .boolean), Cond.methodLink RX4 7 yX4_sizeOf, Cond.static yX4_sizeOf, Cond.code yX4_sizeOf cX4_sizeOf 3 (some .long), Cond.constantLong RX4 68 (9223372036854775807), Cond.constantLong RX4 82 (2147483647), Cond.methodLink RX4 13 yX4_endless, Cond.static yX4_endless, Cond.code yX4_endless cX4_endless 1 (some .long)]
def wsX7_sift_r2 : List Cond := [Cond.constantLong RX4 86 (9218868437227405312), Cond.constantLong RX4 88 (2139095040), Cond.methodLink RX7 152 yX5_isMissing, Cond.instanceMethod yX5_isMissing, Cond.selects RX5 yX5_isMissing yX5_isMissing, Cond.initialized RX5, Cond.code yX5_isMissing cX5_isMissing 1 (some .boolean), Cond.fieldLink RX5 15 "OrreryDials$Row" "size" "I", Cond.methodLink RX7 84 yX7_failWith, Cond.instanceMethod yX7_failWith, Cond.selects RX7 yX7_failWith yX7_failWith, Cond.code yX7_failWith cX7_failWith 3 (some .int), Cond.fieldLink RX7 44 "OrreryDials" "latestFailure" "I", Cond.fieldLink RX7 47 "OrreryDials" "failureCounts" "[I", Cond.methodLink RX7 62 yX4_isZero, Cond.static yX4_isZero, Cond.code yX4_isZero cX4_isZero 3 (some .boolean), Cond.methodLink RX7 148 yX4_leftOver, Cond.static yX4_leftOver, Cond.code yX4_leftOver cX4_leftOver 11 (some .long), Cond.methodLink RX4 57 Lib.Math.max.name, Cond.static Lib.Math.max.name, Cond.initialized "java/lang/Math", Cond.code Lib.Math.max.name Lib.Math.max.code 2 (some .int)]
def wsX7_sift_r3 : List Cond := [Cond.methodLink RX4 61 Lib.Math.min.name, Cond.static Lib.Math.min.name, Cond.code Lib.Math.min.name Lib.Math.min.code 2 (some .int), Cond.methodLink RX4 21 yX4_mantissa, Cond.static yX4_mantissa, Cond.code yX4_mantissa cX4_mantissa 7 (some .long), Cond.methodLink RX4 74 yX4_width, Cond.static yX4_width, Cond.code yX4_width cX4_width 1 (some .int), Cond.methodLink RX4 54 yJ13_numberOfLeadingZeros_95d88, Cond.static yJ13_numberOfLeadingZeros_95d88, Cond.initialized RJ13, Cond.code yJ13_numberOfLeadingZeros_95d88 cJ13_numberOfLeadingZeros_95d88 3 (some .int), Cond.methodLink RJ13 308 yJ6_numberOfLeadingZeros_0f7a4, Cond.static yJ6_numberOfLeadingZeros_0f7a4, Cond.initialized RJ6, Cond.code yJ6_numberOfLeadingZeros_0f7a4 cJ6_numberOfLeadingZeros_0f7a4 2 (some .int), Cond.constant RJ6 264 (65536), Cond.methodLink RX4 24 yX4_exponent, Cond.static yX4_exponent, Cond.code yX4_exponent cX4_exponent 4 (some .int), Cond.methodLink RX4 70 yX4_leastExponent, Cond.static yX4_leastExponent, Cond.code yX4_leastExponent cX4_leastExponent 1 (some .int)]
def wsX7_sift_r4 : List Cond := [Cond.methodLink RX4 32 yX4_nearest, Cond.static yX4_nearest, Cond.code yX4_nearest cX4_nearest 13 (some .long), Cond.methodLink RX4 36 yX4_signed, Cond.static yX4_signed, Cond.code yX4_signed cX4_signed 6 (some .long), Cond.constantLong RX4 19 (-9223372036854775808), Cond.constantLong RX4 84 (-2147483648), Cond.methodLink RX4 40 yX4_lengthOf, Cond.static yX4_lengthOf, Cond.code yX4_lengthOf cX4_lengthOf 2 (some .int), Cond.methodLink RX4 77 yX4_rounded, Cond.static yX4_rounded, Cond.code yX4_rounded cX4_rounded 10 (some .long), Cond.methodLink RX7 80 yX7_done, Cond.instanceMethod yX7_done, Cond.selects RX7 yX7_done yX7_done, Cond.code yX7_done cX7_done 2 (some .int)]
def wsX7_sift : List Cond := .code yX7_sift cX7_sift 10 (some .int) :: ((wsX7_sift_r1 ++ (wsX7_sift_r2 ++ (wsX7_sift_r3 ++ wsX7_sift_r4))) ++ wsX50 ++ wsX70)
def wsX7_isKind : List Cond := .code yX7_isKind cX7_isKind 1 (some .boolean) :: ([])
def wsX7_isReal : List Cond := .code yX7_isReal cX7_isReal 1 (some .boolean) :: ([])
def wsX7_castReal_r1 : List Cond := [Cond.constantLong RX7 190 (-2147483648), Cond.constantLong RX7 192 (2147483647), Cond.methodLink RX7 194 Lib.MathLoose.min_long.x, Cond.static Lib.MathLoose.min_long.x, Cond.initialized "java/lang/Math", Cond.code Lib.MathLoose.min_long.x Lib.MathLoose.min_long.code 4 (some .long), Cond.methodLink RX7 200 Lib.MathLoose.max_long.x, Cond.static Lib.MathLoose.max_long.x, Cond.code Lib.MathLoose.max_long.x Lib.MathLoose.max_long.code 4 (some .long), Cond.methodLink RX7 162 yX7_isReal, Cond.static yX7_isReal, Cond.initialized RX7, Cond.code yX7_isReal cX7_isReal 1 (some .boolean), Cond.methodLink RX7 144 yX4_ofReal, Cond.static yX4_ofReal, Cond.initialized RX4, Cond.code yX4_ofReal cX4_ofReal 4 (some .long), Cond.methodLink RX4 64 yX4_isFit, Cond.static yX4_isFit, Cond.code yX4_isFit cX4_isFit 3 (some .boolean), Cond.methodLink RX4 7 yX4_sizeOf, Cond.static yX4_sizeOf, Cond.code yX4_sizeOf cX4_sizeOf 3 (some .long), Cond.constantLong RX4 68 (9223372036854775807)]
def wsX7_castReal_r2 : List Cond := [Cond.constantLong RX4 82 (2147483647), Cond.methodLink RX4 13 yX4_endless, Cond.static yX4_endless, Cond.code yX4_endless cX4_endless 1 (some .long), Cond.constantLong RX4 86 (9218868437227405312), Cond.constantLong RX4 88 (2139095040), Cond.methodLink RX4 36 yX4_signed, Cond.static yX4_signed, Cond.code yX4_signed cX4_signed 6 (some .long), Cond.constantLong RX4 19 (-9223372036854775808), Cond.constantLong RX4 84 (-2147483648), Cond.methodLink RX4 21 yX4_mantissa, Cond.static yX4_mantissa, Cond.code yX4_mantissa cX4_mantissa 7 (some .long), Cond.methodLink RX4 74 yX4_width, Cond.static yX4_width, Cond.code yX4_width cX4_width 1 (some .int), Cond.methodLink RX4 24 yX4_exponent, Cond.static yX4_exponent, Cond.code yX4_exponent cX4_exponent 4 (some .int), Cond.methodLink RX4 57 Lib.Math.max.name, Cond.static Lib.Math.max.name, Cond.code Lib.Math.max.name Lib.Math.max.code 2 (some .int), Cond.methodLink RX4 70 yX4_leastExponent]
def wsX7_castReal_r3 : List Cond := [Cond.static yX4_leastExponent, Cond.code yX4_leastExponent cX4_leastExponent 1 (some .int), Cond.methodLink RX4 32 yX4_nearest, Cond.static yX4_nearest, Cond.code yX4_nearest cX4_nearest 13 (some .long), Cond.methodLink RX4 40 yX4_lengthOf, Cond.static yX4_lengthOf, Cond.code yX4_lengthOf cX4_lengthOf 2 (some .int), Cond.methodLink RX4 54 yJ13_numberOfLeadingZeros_95d88, Cond.static yJ13_numberOfLeadingZeros_95d88, Cond.initialized RJ13, Cond.code yJ13_numberOfLeadingZeros_95d88 cJ13_numberOfLeadingZeros_95d88 3 (some .int), Cond.methodLink RJ13 308 yJ6_numberOfLeadingZeros_0f7a4, Cond.static yJ6_numberOfLeadingZeros_0f7a4, Cond.initialized RJ6, Cond.code yJ6_numberOfLeadingZeros_0f7a4 cJ6_numberOfLeadingZeros_0f7a4 2 (some .int), Cond.constant RJ6 264 (65536), Cond.methodLink RX4 77 yX4_rounded, Cond.static yX4_rounded, Cond.code yX4_rounded cX4_rounded 10 (some .long), Cond.methodLink RX7 185 yX4_cutToLong, Cond.static yX4_cutToLong, Cond.code yX4_cutToLong cX4_cutToLong 8 (some .long)]
def wsX7_castReal : List Cond := .code yX7_castReal cX7_castReal 6 (some .long) :: ((wsX7_castReal_r1 ++ (wsX7_castReal_r2 ++ wsX7_castReal_r3)))
def wsX7_castWhole_r1 : List Cond := [Cond.methodLink RX7 162 yX7_isReal, Cond.static yX7_isReal, Cond.initialized RX7, Cond.code yX7_isReal cX7_isReal 1 (some .boolean), Cond.methodLink RX7 203 yX4_ofLong, Cond.static yX4_ofLong, Cond.initialized RX4, Cond.code yX4_ofLong cX4_ofLong 3 (some .long), Cond.methodLink RX4 48 Lib.MathLoose.abs_long.x, Cond.static Lib.MathLoose.abs_long.x, Cond.initialized "java/lang/Math", Cond.code Lib.MathLoose.abs_long.x Lib.MathLoose.abs_long.code 2 (some .long), Cond.methodLink RX4 32 yX4_nearest, Cond.static yX4_nearest, Cond.code yX4_nearest cX4_nearest 13 (some .long), Cond.methodLink RX4 57 Lib.Math.max.name, Cond.static Lib.Math.max.name, Cond.code Lib.Math.max.name Lib.Math.max.code 2 (some .int), Cond.methodLink RX4 36 yX4_signed, Cond.static yX4_signed, Cond.code yX4_signed cX4_signed 6 (some .long), Cond.constantLong RX4 19 (-9223372036854775808), Cond.constantLong RX4 84 (-2147483648), Cond.methodLink RX4 70 yX4_leastExponent]
def wsX7_castWhole_r2 : List Cond := [Cond.static yX4_leastExponent, Cond.code yX4_leastExponent cX4_leastExponent 1 (some .int), Cond.methodLink RX4 40 yX4_lengthOf, Cond.static yX4_lengthOf, Cond.code yX4_lengthOf cX4_lengthOf 2 (some .int), Cond.methodLink RX4 54 yJ13_numberOfLeadingZeros_95d88, Cond.static yJ13_numberOfLeadingZeros_95d88, Cond.initialized RJ13, Cond.code yJ13_numberOfLeadingZeros_95d88 cJ13_numberOfLeadingZeros_95d88 3 (some .int), Cond.methodLink RJ13 308 yJ6_numberOfLeadingZeros_0f7a4, Cond.static yJ6_numberOfLeadingZeros_0f7a4, Cond.initialized RJ6, Cond.code yJ6_numberOfLeadingZeros_0f7a4 cJ6_numberOfLeadingZeros_0f7a4 2 (some .int), Cond.constant RJ6 264 (65536), Cond.methodLink RX4 74 yX4_width, Cond.static yX4_width, Cond.code yX4_width cX4_width 1 (some .int), Cond.methodLink RX4 13 yX4_endless, Cond.static yX4_endless, Cond.code yX4_endless cX4_endless 1 (some .long), Cond.constantLong RX4 86 (9218868437227405312), Cond.constantLong RX4 88 (2139095040), Cond.methodLink RX4 77 yX4_rounded, Cond.static yX4_rounded]
def wsX7_castWhole_r3 : List Cond := [Cond.code yX4_rounded cX4_rounded 10 (some .long)]
def wsX7_castWhole : List Cond := .code yX7_castWhole cX7_castWhole 3 (some .long) :: ((wsX7_castWhole_r1 ++ (wsX7_castWhole_r2 ++ wsX7_castWhole_r3)))
def wsX7_cast_r1 : List Cond := [Cond.fieldLink RX7 40 "OrreryDials" "seenBits" "J", Cond.methodLink RX7 159 yX7_isKind, Cond.static yX7_isKind, Cond.initialized RX7, Cond.code yX7_isKind cX7_isKind 1 (some .boolean), Cond.methodLink RX7 162 yX7_isReal, Cond.static yX7_isReal, Cond.code yX7_isReal cX7_isReal 1 (some .boolean), Cond.methodLink RX7 165 yX4_isNumber, Cond.static yX4_isNumber, Cond.initialized RX4, Cond.code yX4_isNumber cX4_isNumber 3 (some .boolean), Cond.methodLink RX4 7 yX4_sizeOf, Cond.static yX4_sizeOf, Cond.code yX4_sizeOf cX4_sizeOf 3 (some .long), Cond.constantLong RX4 68 (9223372036854775807), Cond.constantLong RX4 82 (2147483647), Cond.methodLink RX4 13 yX4_endless, Cond.static yX4_endless, Cond.code yX4_endless cX4_endless 1 (some .long), Cond.constantLong RX4 86 (9218868437227405312), Cond.constantLong RX4 88 (2139095040), Cond.methodLink RX7 168 yX7_castReal, Cond.static yX7_castReal]
def wsX7_cast_r2 : List Cond := [Cond.code yX7_castReal cX7_castReal 6 (some .long), Cond.constantLong RX7 190 (-2147483648), Cond.constantLong RX7 192 (2147483647), Cond.methodLink RX7 194 Lib.MathLoose.min_long.x, Cond.static Lib.MathLoose.min_long.x, Cond.initialized "java/lang/Math", Cond.code Lib.MathLoose.min_long.x Lib.MathLoose.min_long.code 4 (some .long), Cond.methodLink RX7 200 Lib.MathLoose.max_long.x, Cond.static Lib.MathLoose.max_long.x, Cond.code Lib.MathLoose.max_long.x Lib.MathLoose.max_long.code 4 (some .long), Cond.methodLink RX7 144 yX4_ofReal, Cond.static yX4_ofReal, Cond.code yX4_ofReal cX4_ofReal 4 (some .long), Cond.methodLink RX4 64 yX4_isFit, Cond.static yX4_isFit, Cond.code yX4_isFit cX4_isFit 3 (some .boolean), Cond.methodLink RX4 36 yX4_signed, Cond.static yX4_signed, Cond.code yX4_signed cX4_signed 6 (some .long), Cond.constantLong RX4 19 (-9223372036854775808), Cond.constantLong RX4 84 (-2147483648), Cond.methodLink RX4 21 yX4_mantissa, Cond.static yX4_mantissa, Cond.code yX4_mantissa cX4_mantissa 7 (some .long)]
def wsX7_cast_r3 : List Cond := [Cond.methodLink RX4 74 yX4_width, Cond.static yX4_width, Cond.code yX4_width cX4_width 1 (some .int), Cond.methodLink RX4 24 yX4_exponent, Cond.static yX4_exponent, Cond.code yX4_exponent cX4_exponent 4 (some .int), Cond.methodLink RX4 57 Lib.Math.max.name, Cond.static Lib.Math.max.name, Cond.code Lib.Math.max.name Lib.Math.max.code 2 (some .int), Cond.methodLink RX4 70 yX4_leastExponent, Cond.static yX4_leastExponent, Cond.code yX4_leastExponent cX4_leastExponent 1 (some .int), Cond.methodLink RX4 32 yX4_nearest, Cond.static yX4_nearest, Cond.code yX4_nearest cX4_nearest 13 (some .long), Cond.methodLink RX4 40 yX4_lengthOf, Cond.static yX4_lengthOf, Cond.code yX4_lengthOf cX4_lengthOf 2 (some .int), Cond.methodLink RX4 54 yJ13_numberOfLeadingZeros_95d88, Cond.static yJ13_numberOfLeadingZeros_95d88, Cond.initialized RJ13, Cond.code yJ13_numberOfLeadingZeros_95d88 cJ13_numberOfLeadingZeros_95d88 3 (some .int), Cond.methodLink RJ13 308 yJ6_numberOfLeadingZeros_0f7a4, Cond.static yJ6_numberOfLeadingZeros_0f7a4]
def wsX7_cast_r4 : List Cond := [Cond.initialized RJ6, Cond.code yJ6_numberOfLeadingZeros_0f7a4 cJ6_numberOfLeadingZeros_0f7a4 2 (some .int), Cond.constant RJ6 264 (65536), Cond.methodLink RX4 77 yX4_rounded, Cond.static yX4_rounded, Cond.code yX4_rounded cX4_rounded 10 (some .long), Cond.methodLink RX7 185 yX4_cutToLong, Cond.static yX4_cutToLong, Cond.code yX4_cutToLong cX4_cutToLong 8 (some .long), Cond.methodLink RX7 172 yX7_castWhole, Cond.static yX7_castWhole, Cond.code yX7_castWhole cX7_castWhole 3 (some .long), Cond.methodLink RX7 203 yX4_ofLong, Cond.static yX4_ofLong, Cond.code yX4_ofLong cX4_ofLong 3 (some .long), Cond.methodLink RX4 48 Lib.MathLoose.abs_long.x, Cond.static Lib.MathLoose.abs_long.x, Cond.code Lib.MathLoose.abs_long.x Lib.MathLoose.abs_long.code 2 (some .long)]
def wsX7_cast : List Cond := .code yX7_cast cX7_cast 7 (some .int) :: ((wsX7_cast_r1 ++ (wsX7_cast_r2 ++ (wsX7_cast_r3 ++ wsX7_cast_r4))) ++ wsX70)
def wsX7_left_r1 : List Cond := [Cond.fieldLink RX7 40 "OrreryDials" "seenBits" "J", Cond.methodLink RX7 52 yX4_told, Cond.static yX4_told, Cond.initialized RX4, Cond.code yX4_told cX4_told 3 (some .long), Cond.methodLink RX7 58 yX4_isFit, Cond.static yX4_isFit, Cond.code yX4_isFit cX4_isFit 3 (some .boolean), Cond.methodLink RX4 7 yX4_sizeOf, Cond.static yX4_sizeOf, Cond.code yX4_sizeOf cX4_sizeOf 3 (some .long), Cond.constantLong RX4 68 (9223372036854775807), Cond.constantLong RX4 82 (2147483647), Cond.methodLink RX4 13 yX4_endless, Cond.static yX4_endless, Cond.code yX4_endless cX4_endless 1 (some .long), Cond.constantLong RX4 86 (9218868437227405312), Cond.constantLong RX4 88 (2139095040), Cond.methodLink RX7 62 yX4_isZero, Cond.static yX4_isZero, Cond.code yX4_isZero cX4_isZero 3 (some .boolean), Cond.methodLink RX7 165 yX4_isNumber, Cond.static yX4_isNumber, Cond.code yX4_isNumber cX4_isNumber 3 (some .boolean)]
def wsX7_left_r2 : List Cond := [Cond.methodLink RX7 148 yX4_leftOver, Cond.static yX4_leftOver, Cond.code yX4_leftOver cX4_leftOver 11 (some .long), Cond.methodLink RX4 57 Lib.Math.max.name, Cond.static Lib.Math.max.name, Cond.initialized "java/lang/Math", Cond.code Lib.Math.max.name Lib.Math.max.code 2 (some .int), Cond.methodLink RX4 61 Lib.Math.min.name, Cond.static Lib.Math.min.name, Cond.code Lib.Math.min.name Lib.Math.min.code 2 (some .int), Cond.methodLink RX4 21 yX4_mantissa, Cond.static yX4_mantissa, Cond.code yX4_mantissa cX4_mantissa 7 (some .long), Cond.methodLink RX4 74 yX4_width, Cond.static yX4_width, Cond.code yX4_width cX4_width 1 (some .int), Cond.methodLink RX4 54 yJ13_numberOfLeadingZeros_95d88, Cond.static yJ13_numberOfLeadingZeros_95d88, Cond.initialized RJ13, Cond.code yJ13_numberOfLeadingZeros_95d88 cJ13_numberOfLeadingZeros_95d88 3 (some .int), Cond.methodLink RJ13 308 yJ6_numberOfLeadingZeros_0f7a4, Cond.static yJ6_numberOfLeadingZeros_0f7a4, Cond.initialized RJ6, Cond.code yJ6_numberOfLeadingZeros_0f7a4 cJ6_numberOfLeadingZeros_0f7a4 2 (some .int)]
def wsX7_left_r3 : List Cond := [Cond.constant RJ6 264 (65536), Cond.methodLink RX4 24 yX4_exponent, Cond.static yX4_exponent, Cond.code yX4_exponent cX4_exponent 4 (some .int), Cond.methodLink RX4 70 yX4_leastExponent, Cond.static yX4_leastExponent, Cond.code yX4_leastExponent cX4_leastExponent 1 (some .int), Cond.methodLink RX4 32 yX4_nearest, Cond.static yX4_nearest, Cond.code yX4_nearest cX4_nearest 13 (some .long), Cond.methodLink RX4 36 yX4_signed, Cond.static yX4_signed, Cond.code yX4_signed cX4_signed 6 (some .long), Cond.constantLong RX4 19 (-9223372036854775808), Cond.constantLong RX4 84 (-2147483648), Cond.methodLink RX4 40 yX4_lengthOf, Cond.static yX4_lengthOf, Cond.code yX4_lengthOf cX4_lengthOf 2 (some .int), Cond.methodLink RX4 77 yX4_rounded, Cond.static yX4_rounded, Cond.code yX4_rounded cX4_rounded 10 (some .long)]
def wsX7_left : List Cond := .code yX7_left cX7_left 10 (some .int) :: ((wsX7_left_r1 ++ (wsX7_left_r2 ++ wsX7_left_r3)) ++ wsX70)
def wsX7_failed : List Cond := .code yX7_failed cX7_failed 1 (some .int) :: ([.fieldLink RX7 44 "OrreryDials" "latestFailure" "I"] ++ wsX70)
def wsX7_about : List Cond := .code yX7_about cX7_about 3 (some .int) :: ([.fieldLink RX7 15 "OrreryDials" "dialCount" "I", .fieldLink RX7 25 "OrreryDials" "driveCount" "I", .fieldLink RX7 47 "OrreryDials" "failureCounts" "[I"] ++ wsX70)
def wsX8_init_r1 : List Cond := [Cond.methodLink RX8 1 objectInit, Cond.instanceMethod objectInit, Cond.code objectInit ⟨#[0xb1]⟩ 1 none, Cond.arrayClass .boolean, Cond.fieldLink RX8 7 "OrreryDialsModel" "isFine" "[Z", Cond.arrayClass .float, Cond.fieldLink RX8 13 "OrreryDialsModel" "rimF" "[F", Cond.fieldLink RX8 17 "OrreryDialsModel" "placeF" "[F", Cond.arrayClass .double, Cond.fieldLink RX8 20 "OrreryDialsModel" "rimD" "[D", Cond.fieldLink RX8 24 "OrreryDialsModel" "placeD" "[D", Cond.arrayClass .long, Cond.fieldLink RX8 27 "OrreryDialsModel" "lapsOf" "[J", Cond.arrayClass .int, Cond.fieldLink RX8 31 "OrreryDialsModel" "sortOf" "[I", Cond.fieldLink RX8 35 "OrreryDialsModel" "pullOf" "[D", Cond.fieldLink RX8 38 "OrreryDialsModel" "gearOf" "[I", Cond.fieldLink RX8 41 "OrreryDialsModel" "pulled" "[I", Cond.fieldLink RX8 44 "OrreryDialsModel" "slots" "[I", Cond.fieldLink RX8 47 "OrreryDialsModel" "shafts" "[I", Cond.fieldLink RX8 50 "OrreryDialsModel" "many" "[I", Cond.fieldLink RX8 53 "OrreryDialsModel" "floats" "[F", Cond.fieldLink RX8 56 "OrreryDialsModel" "doubles" "[D", Cond.fieldLink RX8 59 "OrreryDialsModel" "counts" "[I"]
def wsX8_init_r2 : List Cond := [Cond.fieldLink RX8 62 "OrreryDialsModel" "dials" "I"]
def wsX8_init : List Cond := .code yX8_init cX8_init 1 none :: ((wsX8_init_r1 ++ wsX8_init_r2) ++ wsX80)
def wsX8_in : List Cond := .code yX8_in cX8_in 6 (some .boolean) :: ([])
def wsX8_done : List Cond := .code yX8_done cX8_done 2 (some .int) :: ([.fieldLink RX8 66 "OrreryDialsModel" "failed" "I"] ++ wsX80)
def wsX8_fails : List Cond := .code yX8_fails cX8_fails 2 (some .int) :: ([.fieldLink RX8 66 "OrreryDialsModel" "failed" "I", .fieldLink RX8 59 "OrreryDialsModel" "counts" "[I"] ++ wsX80)
def wsX8_isFitFloat : List Cond := .code yX8_isFitFloat cX8_isFitFloat 2 (some .boolean) :: ([.constant RX8 69 (2139095040)])
def wsX8_isFitDouble : List Cond := .code yX8_isFitDouble cX8_isFitDouble 2 (some .boolean) :: ([.constantLong RX8 70 (9218868437227405312)])
def wsX8_isFit : List Cond := .code yX8_isFit cX8_isFit 3 (some .boolean) :: ([.methodLink RX8 72 yX8_isFitDouble, .static yX8_isFitDouble, .initialized RX8, .code yX8_isFitDouble cX8_isFitDouble 2 (some .boolean), .constantLong RX8 70 (9218868437227405312), .methodLink RX8 76 yX8_isFitFloat, .static yX8_isFitFloat, .code yX8_isFitFloat cX8_isFitFloat 2 (some .boolean), .constant RX8 69 (2139095040)])
def wsX8_isNone : List Cond := .code yX8_isNone cX8_isNone 3 (some .boolean) :: ([.constant RX8 79 (2147483647), .constant RX8 69 (2139095040), .constantLong RX8 80 (9223372036854775807), .constantLong RX8 70 (9218868437227405312)])
def wsX8_isEndless : List Cond := .code yX8_isEndless cX8_isEndless 2 (some .boolean) :: ([.constantDouble RX8 82 (9218868437227405311), .constantDouble RX8 84 (18442240474082181119)])
def wsX8_isEndlessFloat : List Cond := .code yX8_isEndlessFloat cX8_isEndlessFloat 1 (some .boolean) :: ([.constantFloat RX8 86 (2139095039), .constantFloat RX8 87 (4286578687)])
def wsX8_floatOf : List Cond := .code yX8_floatOf cX8_floatOf 2 (some .float) :: ([.methodLink RX8 88 ⟨"java/lang/Float", "intBitsToFloat", "(I)F"⟩, .native ⟨"java/lang/Float", "intBitsToFloat", "(I)F"⟩, .static ⟨"java/lang/Float", "intBitsToFloat", "(I)F"⟩, .initialized "java/lang/Float"])
def wsX8_doubleOf : List Cond := .code yX8_doubleOf cX8_doubleOf 2 (some .double) :: ([.methodLink RX8 94 ⟨"java/lang/Double", "longBitsToDouble", "(J)D"⟩, .native ⟨"java/lang/Double", "longBitsToDouble", "(J)D"⟩, .static ⟨"java/lang/Double", "longBitsToDouble", "(J)D"⟩, .initialized "java/lang/Double"])
def wsX8_isDial : List Cond := .code yX8_isDial cX8_isDial 2 (some .boolean) :: ([.fieldLink RX8 62 "OrreryDialsModel" "dials" "I", .methodLink RX8 100 yX8_in, .static yX8_in, .initialized RX8, .code yX8_in cX8_in 6 (some .boolean)] ++ wsX80)
def wsX8_dial_r1 : List Cond := [Cond.fieldLink RX8 62 "OrreryDialsModel" "dials" "I", Cond.fieldLink RX8 7 "OrreryDialsModel" "isFine" "[Z", Cond.fieldLink RX8 13 "OrreryDialsModel" "rimF" "[F", Cond.fieldLink RX8 20 "OrreryDialsModel" "rimD" "[D", Cond.fieldLink RX8 17 "OrreryDialsModel" "placeF" "[F", Cond.fieldLink RX8 24 "OrreryDialsModel" "placeD" "[D", Cond.fieldLink RX8 27 "OrreryDialsModel" "lapsOf" "[J", Cond.methodLink RX8 104 yX8_isFit, Cond.static yX8_isFit, Cond.initialized RX8, Cond.code yX8_isFit cX8_isFit 3 (some .boolean), Cond.methodLink RX8 72 yX8_isFitDouble, Cond.static yX8_isFitDouble, Cond.code yX8_isFitDouble cX8_isFitDouble 2 (some .boolean), Cond.constantLong RX8 70 (9218868437227405312), Cond.methodLink RX8 76 yX8_isFitFloat, Cond.static yX8_isFitFloat, Cond.code yX8_isFitFloat cX8_isFitFloat 2 (some .boolean), Cond.constant RX8 69 (2139095040), Cond.methodLink RX8 108 yX8_doubleOf, Cond.static yX8_doubleOf, Cond.code yX8_doubleOf cX8_doubleOf 2 (some .double), Cond.methodLink RX8 94 ⟨"java/lang/Double", "longBitsToDouble", "(J)D"⟩, Cond.native ⟨"java/lang/Double", "longBitsToDouble", "(J)D"⟩]
def wsX8_dial_r2 : List Cond := [Cond.static ⟨"java/lang/Double", "longBitsToDouble", "(J)D"⟩, Cond.initialized "java/lang/Double", Cond.methodLink RX8 111 yX8_floatOf, Cond.static yX8_floatOf, Cond.code yX8_floatOf cX8_floatOf 2 (some .float), Cond.methodLink RX8 88 ⟨"java/lang/Float", "intBitsToFloat", "(I)F"⟩, Cond.native ⟨"java/lang/Float", "intBitsToFloat", "(I)F"⟩, Cond.static ⟨"java/lang/Float", "intBitsToFloat", "(I)F"⟩, Cond.initialized "java/lang/Float"]
def wsX8_dial : List Cond := .code yX8_dial cX8_dial 4 (some .int) :: ((wsX8_dial_r1 ++ wsX8_dial_r2) ++ wsX80)
def wsX8_goesFloat : List Cond := .code yX8_goesFloat cX8_goesFloat 4 (some .boolean) :: ([.fieldLink RX8 17 "OrreryDialsModel" "placeF" "[F", .fieldLink RX8 27 "OrreryDialsModel" "lapsOf" "[J", .fieldLink RX8 13 "OrreryDialsModel" "rimF" "[F", .methodLink RX8 115 yX8_isEndlessFloat, .static yX8_isEndlessFloat, .initialized RX8, .code yX8_isEndlessFloat cX8_isEndlessFloat 1 (some .boolean), .constantFloat RX8 86 (2139095039), .constantFloat RX8 87 (4286578687)] ++ wsX80)
def wsX8_goesDouble : List Cond := .code yX8_goesDouble cX8_goesDouble 6 (some .boolean) :: ([.fieldLink RX8 24 "OrreryDialsModel" "placeD" "[D", .fieldLink RX8 27 "OrreryDialsModel" "lapsOf" "[J", .fieldLink RX8 20 "OrreryDialsModel" "rimD" "[D", .methodLink RX8 119 yX8_isEndless, .static yX8_isEndless, .initialized RX8, .code yX8_isEndless cX8_isEndless 2 (some .boolean), .constantDouble RX8 82 (9218868437227405311), .constantDouble RX8 84 (18442240474082181119)] ++ wsX80)
def wsX8_goes_r1 : List Cond := [Cond.fieldLink RX8 7 "OrreryDialsModel" "isFine" "[Z", Cond.methodLink RX8 108 yX8_doubleOf, Cond.static yX8_doubleOf, Cond.initialized RX8, Cond.code yX8_doubleOf cX8_doubleOf 2 (some .double), Cond.methodLink RX8 94 ⟨"java/lang/Double", "longBitsToDouble", "(J)D"⟩, Cond.native ⟨"java/lang/Double", "longBitsToDouble", "(J)D"⟩, Cond.static ⟨"java/lang/Double", "longBitsToDouble", "(J)D"⟩, Cond.initialized "java/lang/Double", Cond.methodLink RX8 123 yX8_goesDouble, Cond.instanceMethod yX8_goesDouble, Cond.selects RX8 yX8_goesDouble yX8_goesDouble, Cond.code yX8_goesDouble cX8_goesDouble 6 (some .boolean), Cond.fieldLink RX8 24 "OrreryDialsModel" "placeD" "[D", Cond.fieldLink RX8 27 "OrreryDialsModel" "lapsOf" "[J", Cond.fieldLink RX8 20 "OrreryDialsModel" "rimD" "[D", Cond.methodLink RX8 119 yX8_isEndless, Cond.static yX8_isEndless, Cond.code yX8_isEndless cX8_isEndless 2 (some .boolean), Cond.constantDouble RX8 82 (9218868437227405311), Cond.constantDouble RX8 84 (18442240474082181119), Cond.methodLink RX8 111 yX8_floatOf, Cond.static yX8_floatOf, Cond.code yX8_floatOf cX8_floatOf 2 (some .float)]
def wsX8_goes_r2 : List Cond := [Cond.methodLink RX8 88 ⟨"java/lang/Float", "intBitsToFloat", "(I)F"⟩, Cond.native ⟨"java/lang/Float", "intBitsToFloat", "(I)F"⟩, Cond.static ⟨"java/lang/Float", "intBitsToFloat", "(I)F"⟩, Cond.initialized "java/lang/Float", Cond.methodLink RX8 127 yX8_goesFloat, Cond.instanceMethod yX8_goesFloat, Cond.selects RX8 yX8_goesFloat yX8_goesFloat, Cond.code yX8_goesFloat cX8_goesFloat 4 (some .boolean), Cond.fieldLink RX8 17 "OrreryDialsModel" "placeF" "[F", Cond.fieldLink RX8 13 "OrreryDialsModel" "rimF" "[F", Cond.methodLink RX8 115 yX8_isEndlessFloat, Cond.static yX8_isEndlessFloat, Cond.code yX8_isEndlessFloat cX8_isEndlessFloat 1 (some .boolean), Cond.constantFloat RX8 86 (2139095039), Cond.constantFloat RX8 87 (4286578687)]
def wsX8_goes : List Cond := .code yX8_goes cX8_goes 4 (some .boolean) :: ((wsX8_goes_r1 ++ wsX8_goes_r2) ++ wsX80)
def wsX8_turn_r1 : List Cond := [Cond.fieldLink RX8 7 "OrreryDialsModel" "isFine" "[Z", Cond.methodLink RX8 131 yX8_isDial, Cond.instanceMethod yX8_isDial, Cond.selects RX8 yX8_isDial yX8_isDial, Cond.initialized RX8, Cond.code yX8_isDial cX8_isDial 2 (some .boolean), Cond.fieldLink RX8 62 "OrreryDialsModel" "dials" "I", Cond.methodLink RX8 100 yX8_in, Cond.static yX8_in, Cond.code yX8_in cX8_in 6 (some .boolean), Cond.methodLink RX8 104 yX8_isFit, Cond.static yX8_isFit, Cond.code yX8_isFit cX8_isFit 3 (some .boolean), Cond.methodLink RX8 72 yX8_isFitDouble, Cond.static yX8_isFitDouble, Cond.code yX8_isFitDouble cX8_isFitDouble 2 (some .boolean), Cond.constantLong RX8 70 (9218868437227405312), Cond.methodLink RX8 76 yX8_isFitFloat, Cond.static yX8_isFitFloat, Cond.code yX8_isFitFloat cX8_isFitFloat 2 (some .boolean), Cond.constant RX8 69 (2139095040), Cond.methodLink RX8 135 yX8_goes, Cond.instanceMethod yX8_goes, Cond.selects RX8 yX8_goes yX8_goes]
def wsX8_turn_r2 : List Cond := [Cond.code yX8_goes cX8_goes 4 (some .boolean), Cond.methodLink RX8 108 yX8_doubleOf, Cond.static yX8_doubleOf, Cond.code yX8_doubleOf cX8_doubleOf 2 (some .double), Cond.methodLink RX8 94 ⟨"java/lang/Double", "longBitsToDouble", "(J)D"⟩, Cond.native ⟨"java/lang/Double", "longBitsToDouble", "(J)D"⟩, Cond.static ⟨"java/lang/Double", "longBitsToDouble", "(J)D"⟩, Cond.initialized "java/lang/Double", Cond.methodLink RX8 123 yX8_goesDouble, Cond.instanceMethod yX8_goesDouble, Cond.selects RX8 yX8_goesDouble yX8_goesDouble, Cond.code yX8_goesDouble cX8_goesDouble 6 (some .boolean), Cond.fieldLink RX8 24 "OrreryDialsModel" "placeD" "[D", Cond.fieldLink RX8 27 "OrreryDialsModel" "lapsOf" "[J", Cond.fieldLink RX8 20 "OrreryDialsModel" "rimD" "[D", Cond.methodLink RX8 119 yX8_isEndless, Cond.static yX8_isEndless, Cond.code yX8_isEndless cX8_isEndless 2 (some .boolean), Cond.constantDouble RX8 82 (9218868437227405311), Cond.constantDouble RX8 84 (18442240474082181119), Cond.methodLink RX8 111 yX8_floatOf, Cond.static yX8_floatOf, Cond.code yX8_floatOf cX8_floatOf 2 (some .float), Cond.methodLink RX8 88 ⟨"java/lang/Float", "intBitsToFloat", "(I)F"⟩]
def wsX8_turn_r3 : List Cond := [Cond.native ⟨"java/lang/Float", "intBitsToFloat", "(I)F"⟩, Cond.static ⟨"java/lang/Float", "intBitsToFloat", "(I)F"⟩, Cond.initialized "java/lang/Float", Cond.methodLink RX8 127 yX8_goesFloat, Cond.instanceMethod yX8_goesFloat, Cond.selects RX8 yX8_goesFloat yX8_goesFloat, Cond.code yX8_goesFloat cX8_goesFloat 4 (some .boolean), Cond.fieldLink RX8 17 "OrreryDialsModel" "placeF" "[F", Cond.fieldLink RX8 13 "OrreryDialsModel" "rimF" "[F", Cond.methodLink RX8 115 yX8_isEndlessFloat, Cond.static yX8_isEndlessFloat, Cond.code yX8_isEndlessFloat cX8_isEndlessFloat 1 (some .boolean), Cond.constantFloat RX8 86 (2139095039), Cond.constantFloat RX8 87 (4286578687), Cond.methodLink RX8 139 yX8_done, Cond.instanceMethod yX8_done, Cond.selects RX8 yX8_done yX8_done, Cond.code yX8_done cX8_done 2 (some .int), Cond.fieldLink RX8 66 "OrreryDialsModel" "failed" "I", Cond.methodLink RX8 143 yX8_fails, Cond.instanceMethod yX8_fails, Cond.selects RX8 yX8_fails yX8_fails, Cond.code yX8_fails cX8_fails 2 (some .int), Cond.fieldLink RX8 59 "OrreryDialsModel" "counts" "[I"]
def wsX8_turn : List Cond := .code yX8_turn cX8_turn 4 (some .int) :: ((wsX8_turn_r1 ++ (wsX8_turn_r2 ++ wsX8_turn_r3)) ++ wsX80)
def wsX8_spin_r1 : List Cond := [Cond.fieldLink RX8 7 "OrreryDialsModel" "isFine" "[Z", Cond.constantLong RX8 146 (40), Cond.fieldLink RX8 66 "OrreryDialsModel" "failed" "I", Cond.methodLink RX8 131 yX8_isDial, Cond.instanceMethod yX8_isDial, Cond.selects RX8 yX8_isDial yX8_isDial, Cond.initialized RX8, Cond.code yX8_isDial cX8_isDial 2 (some .boolean), Cond.fieldLink RX8 62 "OrreryDialsModel" "dials" "I", Cond.methodLink RX8 100 yX8_in, Cond.static yX8_in, Cond.code yX8_in cX8_in 6 (some .boolean), Cond.methodLink RX8 104 yX8_isFit, Cond.static yX8_isFit, Cond.code yX8_isFit cX8_isFit 3 (some .boolean), Cond.methodLink RX8 72 yX8_isFitDouble, Cond.static yX8_isFitDouble, Cond.code yX8_isFitDouble cX8_isFitDouble 2 (some .boolean), Cond.constantLong RX8 70 (9218868437227405312), Cond.methodLink RX8 76 yX8_isFitFloat, Cond.static yX8_isFitFloat, Cond.code yX8_isFitFloat cX8_isFitFloat 2 (some .boolean), Cond.constant RX8 69 (2139095040), Cond.methodLink RX8 135 yX8_goes]
def wsX8_spin_r2 : List Cond := [Cond.instanceMethod yX8_goes, Cond.selects RX8 yX8_goes yX8_goes, Cond.code yX8_goes cX8_goes 4 (some .boolean), Cond.methodLink RX8 108 yX8_doubleOf, Cond.static yX8_doubleOf, Cond.code yX8_doubleOf cX8_doubleOf 2 (some .double), Cond.methodLink RX8 94 ⟨"java/lang/Double", "longBitsToDouble", "(J)D"⟩, Cond.native ⟨"java/lang/Double", "longBitsToDouble", "(J)D"⟩, Cond.static ⟨"java/lang/Double", "longBitsToDouble", "(J)D"⟩, Cond.initialized "java/lang/Double", Cond.methodLink RX8 123 yX8_goesDouble, Cond.instanceMethod yX8_goesDouble, Cond.selects RX8 yX8_goesDouble yX8_goesDouble, Cond.code yX8_goesDouble cX8_goesDouble 6 (some .boolean), Cond.fieldLink RX8 24 "OrreryDialsModel" "placeD" "[D", Cond.fieldLink RX8 27 "OrreryDialsModel" "lapsOf" "[J", Cond.fieldLink RX8 20 "OrreryDialsModel" "rimD" "[D", Cond.methodLink RX8 119 yX8_isEndless, Cond.static yX8_isEndless, Cond.code yX8_isEndless cX8_isEndless 2 (some .boolean), Cond.constantDouble RX8 82 (9218868437227405311), Cond.constantDouble RX8 84 (18442240474082181119), Cond.methodLink RX8 111 yX8_floatOf, Cond.static yX8_floatOf]
def wsX8_spin_r3 : List Cond := [Cond.code yX8_floatOf cX8_floatOf 2 (some .float), Cond.methodLink RX8 88 ⟨"java/lang/Float", "intBitsToFloat", "(I)F"⟩, Cond.native ⟨"java/lang/Float", "intBitsToFloat", "(I)F"⟩, Cond.static ⟨"java/lang/Float", "intBitsToFloat", "(I)F"⟩, Cond.initialized "java/lang/Float", Cond.methodLink RX8 127 yX8_goesFloat, Cond.instanceMethod yX8_goesFloat, Cond.selects RX8 yX8_goesFloat yX8_goesFloat, Cond.code yX8_goesFloat cX8_goesFloat 4 (some .boolean), Cond.fieldLink RX8 17 "OrreryDialsModel" "placeF" "[F", Cond.fieldLink RX8 13 "OrreryDialsModel" "rimF" "[F", Cond.methodLink RX8 115 yX8_isEndlessFloat, Cond.static yX8_isEndlessFloat, Cond.code yX8_isEndlessFloat cX8_isEndlessFloat 1 (some .boolean), Cond.constantFloat RX8 86 (2139095039), Cond.constantFloat RX8 87 (4286578687), Cond.methodLink RX8 143 yX8_fails, Cond.instanceMethod yX8_fails, Cond.selects RX8 yX8_fails yX8_fails, Cond.code yX8_fails cX8_fails 2 (some .int), Cond.fieldLink RX8 59 "OrreryDialsModel" "counts" "[I"]
def wsX8_spin : List Cond := .code yX8_spin cX8_spin 7 (some .int) :: ((wsX8_spin_r1 ++ (wsX8_spin_r2 ++ wsX8_spin_r3)) ++ wsX80)
def wsJxe99ae_isNaN_b9ae7 : List Cond := .code yJxe99ae_isNaN_b9ae7 cJxe99ae_isNaN_b9ae7 2 (some .boolean) :: ([])
def wsJxe99ae_doubleToLongBits_ccdee : List Cond := .code yJxe99ae_doubleToLongBits_ccdee cJxe99ae_doubleToLongBits_ccdee 2 (some .long) :: ([.methodLink RJxe99ae 134 ⟨"java/lang/Double", "doubleToRawLongBits", "(D)J"⟩, .native ⟨"java/lang/Double", "doubleToRawLongBits", "(D)J"⟩, .static ⟨"java/lang/Double", "doubleToRawLongBits", "(D)J"⟩, .initialized "java/lang/Double", .constantLong RJxe99ae 137 (9221120237041090560), .methodLink RJxe99ae 122 yJxe99ae_isNaN_b9ae7, .static yJxe99ae_isNaN_b9ae7, .initialized RJxe99ae, .code yJxe99ae_isNaN_b9ae7 cJxe99ae_isNaN_b9ae7 2 (some .boolean)])
def wsJxf58ca_isNaN_12338 : List Cond := .code yJxf58ca_isNaN_12338 cJxf58ca_isNaN_12338 1 (some .boolean) :: ([])
def wsJxf58ca_floatToIntBits_5c35a : List Cond := .code yJxf58ca_floatToIntBits_5c35a cJxf58ca_floatToIntBits_5c35a 1 (some .int) :: ([.methodLink RJxf58ca 74 ⟨"java/lang/Float", "floatToRawIntBits", "(F)I"⟩, .native ⟨"java/lang/Float", "floatToRawIntBits", "(F)I"⟩, .static ⟨"java/lang/Float", "floatToRawIntBits", "(F)I"⟩, .initialized "java/lang/Float", .constant RJxf58ca 77 (2143289344), .methodLink RJxf58ca 59 yJxf58ca_isNaN_12338, .static yJxf58ca_isNaN_12338, .initialized RJxf58ca, .code yJxf58ca_isNaN_12338 cJxf58ca_isNaN_12338 1 (some .boolean)])
def wsX8_place_r1 : List Cond := [Cond.fieldLink RX8 7 "OrreryDialsModel" "isFine" "[Z", Cond.fieldLink RX8 24 "OrreryDialsModel" "placeD" "[D", Cond.fieldLink RX8 20 "OrreryDialsModel" "rimD" "[D", Cond.fieldLink RX8 17 "OrreryDialsModel" "placeF" "[F", Cond.fieldLink RX8 13 "OrreryDialsModel" "rimF" "[F", Cond.methodLink RX8 131 yX8_isDial, Cond.instanceMethod yX8_isDial, Cond.selects RX8 yX8_isDial yX8_isDial, Cond.initialized RX8, Cond.code yX8_isDial cX8_isDial 2 (some .boolean), Cond.fieldLink RX8 62 "OrreryDialsModel" "dials" "I", Cond.methodLink RX8 100 yX8_in, Cond.static yX8_in, Cond.code yX8_in cX8_in 6 (some .boolean), Cond.methodLink RX8 148 yJxe99ae_doubleToLongBits_ccdee, Cond.static yJxe99ae_doubleToLongBits_ccdee, Cond.initialized RJxe99ae, Cond.code yJxe99ae_doubleToLongBits_ccdee cJxe99ae_doubleToLongBits_ccdee 2 (some .long), Cond.methodLink RJxe99ae 134 ⟨"java/lang/Double", "doubleToRawLongBits", "(D)J"⟩, Cond.native ⟨"java/lang/Double", "doubleToRawLongBits", "(D)J"⟩, Cond.static ⟨"java/lang/Double", "doubleToRawLongBits", "(D)J"⟩, Cond.initialized "java/lang/Double", Cond.constantLong RJxe99ae 137 (9221120237041090560), Cond.methodLink RJxe99ae 122 yJxe99ae_isNaN_b9ae7]
def wsX8_place_r2 : List Cond := [Cond.static yJxe99ae_isNaN_b9ae7, Cond.code yJxe99ae_isNaN_b9ae7 cJxe99ae_isNaN_b9ae7 2 (some .boolean), Cond.methodLink RX8 152 yJxf58ca_floatToIntBits_5c35a, Cond.static yJxf58ca_floatToIntBits_5c35a, Cond.initialized RJxf58ca, Cond.code yJxf58ca_floatToIntBits_5c35a cJxf58ca_floatToIntBits_5c35a 1 (some .int), Cond.methodLink RJxf58ca 74 ⟨"java/lang/Float", "floatToRawIntBits", "(F)I"⟩, Cond.native ⟨"java/lang/Float", "floatToRawIntBits", "(F)I"⟩, Cond.static ⟨"java/lang/Float", "floatToRawIntBits", "(F)I"⟩, Cond.initialized "java/lang/Float", Cond.constant RJxf58ca 77 (2143289344), Cond.methodLink RJxf58ca 59 yJxf58ca_isNaN_12338, Cond.static yJxf58ca_isNaN_12338, Cond.code yJxf58ca_isNaN_12338 cJxf58ca_isNaN_12338 1 (some .boolean)]
def wsX8_place : List Cond := .code yX8_place cX8_place 3 (some .long) :: ((wsX8_place_r1 ++ wsX8_place_r2) ++ wsX80)
def wsX8_laps : List Cond := .code yX8_laps cX8_laps 2 (some .long) :: ([.fieldLink RX8 27 "OrreryDialsModel" "lapsOf" "[J", .methodLink RX8 131 yX8_isDial, .instanceMethod yX8_isDial, .selects RX8 yX8_isDial yX8_isDial, .initialized RX8, .code yX8_isDial cX8_isDial 2 (some .boolean), .fieldLink RX8 62 "OrreryDialsModel" "dials" "I", .methodLink RX8 100 yX8_in, .static yX8_in, .code yX8_in cX8_in 6 (some .boolean)] ++ wsX80)
def wsX8_fine : List Cond := .code yX8_fine cX8_fine 2 (some .int) :: ([.fieldLink RX8 7 "OrreryDialsModel" "isFine" "[Z", .methodLink RX8 131 yX8_isDial, .instanceMethod yX8_isDial, .selects RX8 yX8_isDial yX8_isDial, .initialized RX8, .code yX8_isDial cX8_isDial 2 (some .boolean), .fieldLink RX8 62 "OrreryDialsModel" "dials" "I", .methodLink RX8 100 yX8_in, .static yX8_in, .code yX8_in cX8_in 6 (some .boolean)] ++ wsX80)
def wsX8_isDrive : List Cond := .code yX8_isDrive cX8_isDrive 2 (some .boolean) :: ([.fieldLink RX8 156 "OrreryDialsModel" "drives" "I", .methodLink RX8 100 yX8_in, .static yX8_in, .initialized RX8, .code yX8_in cX8_in 6 (some .boolean)] ++ wsX80)
def wsX8_isSlot : List Cond := .code yX8_isSlot cX8_isSlot 1 (some .boolean) :: ([.constantLong RX8 159 (5), .methodLink RX8 100 yX8_in, .static yX8_in, .initialized RX8, .code yX8_in cX8_in 6 (some .boolean)])
def wsX8_isShaft : List Cond := .code yX8_isShaft cX8_isShaft 1 (some .boolean) :: ([.methodLink RX8 100 yX8_in, .static yX8_in, .initialized RX8, .code yX8_in cX8_in 6 (some .boolean)])
def wsX8_drive : List Cond := .code yX8_drive cX8_drive 4 (some .int) :: ([.constantLong RX8 161 (2), .fieldLink RX8 156 "OrreryDialsModel" "drives" "I", .fieldLink RX8 31 "OrreryDialsModel" "sortOf" "[I", .fieldLink RX8 35 "OrreryDialsModel" "pullOf" "[D", .fieldLink RX8 38 "OrreryDialsModel" "gearOf" "[I", .fieldLink RX8 41 "OrreryDialsModel" "pulled" "[I", .methodLink RX8 100 yX8_in, .static yX8_in, .initialized RX8, .code yX8_in cX8_in 6 (some .boolean), .methodLink RX8 72 yX8_isFitDouble, .static yX8_isFitDouble, .code yX8_isFitDouble cX8_isFitDouble 2 (some .boolean), .constantLong RX8 70 (9218868437227405312), .methodLink RX8 108 yX8_doubleOf, .static yX8_doubleOf, .code yX8_doubleOf cX8_doubleOf 2 (some .double), .methodLink RX8 94 ⟨"java/lang/Double", "longBitsToDouble", "(J)D"⟩, .native ⟨"java/lang/Double", "longBitsToDouble", "(J)D"⟩, .static ⟨"java/lang/Double", "longBitsToDouble", "(J)D"⟩, .initialized "java/lang/Double"] ++ wsX80)
def wsX8_fit : List Cond := .code yX8_fit cX8_fit 3 (some .int) :: ([.fieldLink RX8 44 "OrreryDialsModel" "slots" "[I", .methodLink RX8 163 yX8_isSlot, .static yX8_isSlot, .initialized RX8, .code yX8_isSlot cX8_isSlot 1 (some .boolean), .constantLong RX8 159 (5), .methodLink RX8 100 yX8_in, .static yX8_in, .code yX8_in cX8_in 6 (some .boolean), .methodLink RX8 166 yX8_isDrive, .instanceMethod yX8_isDrive, .selects RX8 yX8_isDrive yX8_isDrive, .code yX8_isDrive cX8_isDrive 2 (some .boolean), .fieldLink RX8 156 "OrreryDialsModel" "drives" "I"] ++ wsX80)
def wsX8_hauls_r1 : List Cond := [Cond.fieldLink RX8 35 "OrreryDialsModel" "pullOf" "[D", Cond.fieldLink RX8 31 "OrreryDialsModel" "sortOf" "[I", Cond.fieldLink RX8 7 "OrreryDialsModel" "isFine" "[Z", Cond.fieldLink RX8 24 "OrreryDialsModel" "placeD" "[D", Cond.fieldLink RX8 17 "OrreryDialsModel" "placeF" "[F", Cond.fieldLink RX8 38 "OrreryDialsModel" "gearOf" "[I", Cond.fieldLink RX8 41 "OrreryDialsModel" "pulled" "[I", Cond.methodLink RX8 119 yX8_isEndless, Cond.static yX8_isEndless, Cond.initialized RX8, Cond.code yX8_isEndless cX8_isEndless 2 (some .boolean), Cond.constantDouble RX8 82 (9218868437227405311), Cond.constantDouble RX8 84 (18442240474082181119), Cond.methodLink RX8 123 yX8_goesDouble, Cond.instanceMethod yX8_goesDouble, Cond.selects RX8 yX8_goesDouble yX8_goesDouble, Cond.code yX8_goesDouble cX8_goesDouble 6 (some .boolean), Cond.fieldLink RX8 27 "OrreryDialsModel" "lapsOf" "[J", Cond.fieldLink RX8 20 "OrreryDialsModel" "rimD" "[D", Cond.methodLink RX8 115 yX8_isEndlessFloat, Cond.static yX8_isEndlessFloat, Cond.code yX8_isEndlessFloat cX8_isEndlessFloat 1 (some .boolean), Cond.constantFloat RX8 86 (2139095039), Cond.constantFloat RX8 87 (4286578687)]
def wsX8_hauls_r2 : List Cond := [Cond.methodLink RX8 127 yX8_goesFloat, Cond.instanceMethod yX8_goesFloat, Cond.selects RX8 yX8_goesFloat yX8_goesFloat, Cond.code yX8_goesFloat cX8_goesFloat 4 (some .boolean), Cond.fieldLink RX8 13 "OrreryDialsModel" "rimF" "[F"]
def wsX8_hauls : List Cond := .code yX8_hauls cX8_hauls 12 (some .boolean) :: ((wsX8_hauls_r1 ++ wsX8_hauls_r2) ++ wsX80)
def wsX8_pullCause_r1 : List Cond := [Cond.methodLink RX8 169 yX8_hauls, Cond.instanceMethod yX8_hauls, Cond.selects RX8 yX8_hauls yX8_hauls, Cond.initialized RX8, Cond.code yX8_hauls cX8_hauls 12 (some .boolean), Cond.fieldLink RX8 35 "OrreryDialsModel" "pullOf" "[D", Cond.fieldLink RX8 31 "OrreryDialsModel" "sortOf" "[I", Cond.fieldLink RX8 7 "OrreryDialsModel" "isFine" "[Z", Cond.fieldLink RX8 24 "OrreryDialsModel" "placeD" "[D", Cond.fieldLink RX8 17 "OrreryDialsModel" "placeF" "[F", Cond.fieldLink RX8 38 "OrreryDialsModel" "gearOf" "[I", Cond.fieldLink RX8 41 "OrreryDialsModel" "pulled" "[I", Cond.methodLink RX8 119 yX8_isEndless, Cond.static yX8_isEndless, Cond.code yX8_isEndless cX8_isEndless 2 (some .boolean), Cond.constantDouble RX8 82 (9218868437227405311), Cond.constantDouble RX8 84 (18442240474082181119), Cond.methodLink RX8 123 yX8_goesDouble, Cond.instanceMethod yX8_goesDouble, Cond.selects RX8 yX8_goesDouble yX8_goesDouble, Cond.code yX8_goesDouble cX8_goesDouble 6 (some .boolean), Cond.fieldLink RX8 27 "OrreryDialsModel" "lapsOf" "[J", Cond.fieldLink RX8 20 "OrreryDialsModel" "rimD" "[D", Cond.methodLink RX8 115 yX8_isEndlessFloat]
def wsX8_pullCause_r2 : List Cond := [Cond.static yX8_isEndlessFloat, Cond.code yX8_isEndlessFloat cX8_isEndlessFloat 1 (some .boolean), Cond.constantFloat RX8 86 (2139095039), Cond.constantFloat RX8 87 (4286578687), Cond.methodLink RX8 127 yX8_goesFloat, Cond.instanceMethod yX8_goesFloat, Cond.selects RX8 yX8_goesFloat yX8_goesFloat, Cond.code yX8_goesFloat cX8_goesFloat 4 (some .boolean), Cond.fieldLink RX8 13 "OrreryDialsModel" "rimF" "[F"]
def wsX8_pullCause : List Cond := .code yX8_pullCause cX8_pullCause 3 (some .int) :: ((wsX8_pullCause_r1 ++ wsX8_pullCause_r2) ++ wsX80)
def wsX8_pull_r1 : List Cond := [Cond.fieldLink RX8 44 "OrreryDialsModel" "slots" "[I", Cond.methodLink RX8 163 yX8_isSlot, Cond.static yX8_isSlot, Cond.initialized RX8, Cond.code yX8_isSlot cX8_isSlot 1 (some .boolean), Cond.constantLong RX8 159 (5), Cond.methodLink RX8 100 yX8_in, Cond.static yX8_in, Cond.code yX8_in cX8_in 6 (some .boolean), Cond.methodLink RX8 131 yX8_isDial, Cond.instanceMethod yX8_isDial, Cond.selects RX8 yX8_isDial yX8_isDial, Cond.code yX8_isDial cX8_isDial 2 (some .boolean), Cond.fieldLink RX8 62 "OrreryDialsModel" "dials" "I", Cond.methodLink RX8 173 yX8_pullCause, Cond.instanceMethod yX8_pullCause, Cond.selects RX8 yX8_pullCause yX8_pullCause, Cond.code yX8_pullCause cX8_pullCause 3 (some .int), Cond.methodLink RX8 169 yX8_hauls, Cond.instanceMethod yX8_hauls, Cond.selects RX8 yX8_hauls yX8_hauls, Cond.code yX8_hauls cX8_hauls 12 (some .boolean), Cond.fieldLink RX8 35 "OrreryDialsModel" "pullOf" "[D", Cond.fieldLink RX8 31 "OrreryDialsModel" "sortOf" "[I"]
def wsX8_pull_r2 : List Cond := [Cond.fieldLink RX8 7 "OrreryDialsModel" "isFine" "[Z", Cond.fieldLink RX8 24 "OrreryDialsModel" "placeD" "[D", Cond.fieldLink RX8 17 "OrreryDialsModel" "placeF" "[F", Cond.fieldLink RX8 38 "OrreryDialsModel" "gearOf" "[I", Cond.fieldLink RX8 41 "OrreryDialsModel" "pulled" "[I", Cond.methodLink RX8 119 yX8_isEndless, Cond.static yX8_isEndless, Cond.code yX8_isEndless cX8_isEndless 2 (some .boolean), Cond.constantDouble RX8 82 (9218868437227405311), Cond.constantDouble RX8 84 (18442240474082181119), Cond.methodLink RX8 123 yX8_goesDouble, Cond.instanceMethod yX8_goesDouble, Cond.selects RX8 yX8_goesDouble yX8_goesDouble, Cond.code yX8_goesDouble cX8_goesDouble 6 (some .boolean), Cond.fieldLink RX8 27 "OrreryDialsModel" "lapsOf" "[J", Cond.fieldLink RX8 20 "OrreryDialsModel" "rimD" "[D", Cond.methodLink RX8 115 yX8_isEndlessFloat, Cond.static yX8_isEndlessFloat, Cond.code yX8_isEndlessFloat cX8_isEndlessFloat 1 (some .boolean), Cond.constantFloat RX8 86 (2139095039), Cond.constantFloat RX8 87 (4286578687), Cond.methodLink RX8 127 yX8_goesFloat, Cond.instanceMethod yX8_goesFloat, Cond.selects RX8 yX8_goesFloat yX8_goesFloat]
def wsX8_pull_r3 : List Cond := [Cond.code yX8_goesFloat cX8_goesFloat 4 (some .boolean), Cond.fieldLink RX8 13 "OrreryDialsModel" "rimF" "[F", Cond.methodLink RX8 139 yX8_done, Cond.instanceMethod yX8_done, Cond.selects RX8 yX8_done yX8_done, Cond.code yX8_done cX8_done 2 (some .int), Cond.fieldLink RX8 66 "OrreryDialsModel" "failed" "I", Cond.methodLink RX8 143 yX8_fails, Cond.instanceMethod yX8_fails, Cond.selects RX8 yX8_fails yX8_fails, Cond.code yX8_fails cX8_fails 2 (some .int), Cond.fieldLink RX8 59 "OrreryDialsModel" "counts" "[I"]
def wsX8_pull : List Cond := .code yX8_pull cX8_pull 4 (some .int) :: ((wsX8_pull_r1 ++ (wsX8_pull_r2 ++ wsX8_pull_r3)) ++ wsX80)
def wsX8_gear : List Cond := .code yX8_gear cX8_gear 5 (some .int) :: ([.constantLong RX8 177 (-1000), .constantLong RX8 179 (1000), .fieldLink RX8 44 "OrreryDialsModel" "slots" "[I", .fieldLink RX8 31 "OrreryDialsModel" "sortOf" "[I", .fieldLink RX8 38 "OrreryDialsModel" "gearOf" "[I", .methodLink RX8 163 yX8_isSlot, .static yX8_isSlot, .initialized RX8, .code yX8_isSlot cX8_isSlot 1 (some .boolean), .constantLong RX8 159 (5), .methodLink RX8 100 yX8_in, .static yX8_in, .code yX8_in cX8_in 6 (some .boolean), .methodLink RX8 143 yX8_fails, .instanceMethod yX8_fails, .selects RX8 yX8_fails yX8_fails, .code yX8_fails cX8_fails 2 (some .int), .fieldLink RX8 66 "OrreryDialsModel" "failed" "I", .fieldLink RX8 59 "OrreryDialsModel" "counts" "[I", .methodLink RX8 139 yX8_done, .instanceMethod yX8_done, .selects RX8 yX8_done yX8_done, .code yX8_done cX8_done 2 (some .int)] ++ wsX80)
def wsX8_lay_r1 : List Cond := [Cond.constantLong RX8 184 (3), Cond.fieldLink RX8 44 "OrreryDialsModel" "slots" "[I", Cond.fieldLink RX8 31 "OrreryDialsModel" "sortOf" "[I", Cond.fieldLink RX8 47 "OrreryDialsModel" "shafts" "[I", Cond.methodLink RX8 181 yX8_isShaft, Cond.static yX8_isShaft, Cond.initialized RX8, Cond.code yX8_isShaft cX8_isShaft 1 (some .boolean), Cond.methodLink RX8 100 yX8_in, Cond.static yX8_in, Cond.code yX8_in cX8_in 6 (some .boolean), Cond.methodLink RX8 163 yX8_isSlot, Cond.static yX8_isSlot, Cond.code yX8_isSlot cX8_isSlot 1 (some .boolean), Cond.constantLong RX8 159 (5), Cond.methodLink RX8 143 yX8_fails, Cond.instanceMethod yX8_fails, Cond.selects RX8 yX8_fails yX8_fails, Cond.code yX8_fails cX8_fails 2 (some .int), Cond.fieldLink RX8 66 "OrreryDialsModel" "failed" "I", Cond.fieldLink RX8 59 "OrreryDialsModel" "counts" "[I", Cond.methodLink RX8 139 yX8_done, Cond.instanceMethod yX8_done, Cond.selects RX8 yX8_done yX8_done]
def wsX8_lay_r2 : List Cond := [Cond.code yX8_done cX8_done 2 (some .int)]
def wsX8_lay : List Cond := .code yX8_lay cX8_lay 5 (some .int) :: ((wsX8_lay_r1 ++ wsX8_lay_r2) ++ wsX80)
def wsX8_wind_r1 : List Cond := [Cond.fieldLink RX8 66 "OrreryDialsModel" "failed" "I", Cond.fieldLink RX8 47 "OrreryDialsModel" "shafts" "[I", Cond.methodLink RX8 181 yX8_isShaft, Cond.static yX8_isShaft, Cond.initialized RX8, Cond.code yX8_isShaft cX8_isShaft 1 (some .boolean), Cond.methodLink RX8 100 yX8_in, Cond.static yX8_in, Cond.code yX8_in cX8_in 6 (some .boolean), Cond.methodLink RX8 131 yX8_isDial, Cond.instanceMethod yX8_isDial, Cond.selects RX8 yX8_isDial yX8_isDial, Cond.code yX8_isDial cX8_isDial 2 (some .boolean), Cond.fieldLink RX8 62 "OrreryDialsModel" "dials" "I", Cond.methodLink RX8 173 yX8_pullCause, Cond.instanceMethod yX8_pullCause, Cond.selects RX8 yX8_pullCause yX8_pullCause, Cond.code yX8_pullCause cX8_pullCause 3 (some .int), Cond.methodLink RX8 169 yX8_hauls, Cond.instanceMethod yX8_hauls, Cond.selects RX8 yX8_hauls yX8_hauls, Cond.code yX8_hauls cX8_hauls 12 (some .boolean), Cond.fieldLink RX8 35 "OrreryDialsModel" "pullOf" "[D", Cond.fieldLink RX8 31 "OrreryDialsModel" "sortOf" "[I"]
def wsX8_wind_r2 : List Cond := [Cond.fieldLink RX8 7 "OrreryDialsModel" "isFine" "[Z", Cond.fieldLink RX8 24 "OrreryDialsModel" "placeD" "[D", Cond.fieldLink RX8 17 "OrreryDialsModel" "placeF" "[F", Cond.fieldLink RX8 38 "OrreryDialsModel" "gearOf" "[I", Cond.fieldLink RX8 41 "OrreryDialsModel" "pulled" "[I", Cond.methodLink RX8 119 yX8_isEndless, Cond.static yX8_isEndless, Cond.code yX8_isEndless cX8_isEndless 2 (some .boolean), Cond.constantDouble RX8 82 (9218868437227405311), Cond.constantDouble RX8 84 (18442240474082181119), Cond.methodLink RX8 123 yX8_goesDouble, Cond.instanceMethod yX8_goesDouble, Cond.selects RX8 yX8_goesDouble yX8_goesDouble, Cond.code yX8_goesDouble cX8_goesDouble 6 (some .boolean), Cond.fieldLink RX8 27 "OrreryDialsModel" "lapsOf" "[J", Cond.fieldLink RX8 20 "OrreryDialsModel" "rimD" "[D", Cond.methodLink RX8 115 yX8_isEndlessFloat, Cond.static yX8_isEndlessFloat, Cond.code yX8_isEndlessFloat cX8_isEndlessFloat 1 (some .boolean), Cond.constantFloat RX8 86 (2139095039), Cond.constantFloat RX8 87 (4286578687), Cond.methodLink RX8 127 yX8_goesFloat, Cond.instanceMethod yX8_goesFloat, Cond.selects RX8 yX8_goesFloat yX8_goesFloat]
def wsX8_wind_r3 : List Cond := [Cond.code yX8_goesFloat cX8_goesFloat 4 (some .boolean), Cond.fieldLink RX8 13 "OrreryDialsModel" "rimF" "[F", Cond.methodLink RX8 143 yX8_fails, Cond.instanceMethod yX8_fails, Cond.selects RX8 yX8_fails yX8_fails, Cond.code yX8_fails cX8_fails 2 (some .int), Cond.fieldLink RX8 59 "OrreryDialsModel" "counts" "[I"]
def wsX8_wind : List Cond := .code yX8_wind cX8_wind 5 (some .int) :: ((wsX8_wind_r1 ++ (wsX8_wind_r2 ++ wsX8_wind_r3)) ++ wsX80)
def wsX8_laid : List Cond := .code yX8_laid cX8_laid 3 (some .int) :: ([.constantLong RX8 184 (3), .fieldLink RX8 47 "OrreryDialsModel" "shafts" "[I", .methodLink RX8 181 yX8_isShaft, .static yX8_isShaft, .initialized RX8, .code yX8_isShaft cX8_isShaft 1 (some .boolean), .methodLink RX8 100 yX8_in, .static yX8_in, .code yX8_in cX8_in 6 (some .boolean), .methodLink RX8 139 yX8_done, .instanceMethod yX8_done, .selects RX8 yX8_done yX8_done, .code yX8_done cX8_done 2 (some .int), .fieldLink RX8 66 "OrreryDialsModel" "failed" "I", .methodLink RX8 143 yX8_fails, .instanceMethod yX8_fails, .selects RX8 yX8_fails yX8_fails, .code yX8_fails cX8_fails 2 (some .int), .fieldLink RX8 59 "OrreryDialsModel" "counts" "[I"] ++ wsX80)
def wsX8_pulls : List Cond := .code yX8_pulls cX8_pulls 2 (some .int) :: ([.fieldLink RX8 41 "OrreryDialsModel" "pulled" "[I", .methodLink RX8 166 yX8_isDrive, .instanceMethod yX8_isDrive, .selects RX8 yX8_isDrive yX8_isDrive, .initialized RX8, .code yX8_isDrive cX8_isDrive 2 (some .boolean), .fieldLink RX8 156 "OrreryDialsModel" "drives" "I", .methodLink RX8 100 yX8_in, .static yX8_in, .code yX8_in cX8_in 6 (some .boolean)] ++ wsX80)
def wsX8_isLog : List Cond := .code yX8_isLog cX8_isLog 1 (some .boolean) :: ([.constantLong RX8 186 (7), .methodLink RX8 100 yX8_in, .static yX8_in, .initialized RX8, .code yX8_in cX8_in 6 (some .boolean)])
def wsX8_rowOf : List Cond := .code yX8_rowOf cX8_rowOf 2 (some .int) :: ([])
def wsX8_cause : List Cond := .code yX8_cause cX8_cause 3 (some .int) :: ([.fieldLink RX8 50 "OrreryDialsModel" "many" "[I", .methodLink RX8 100 yX8_in, .static yX8_in, .initialized RX8, .code yX8_in cX8_in 6 (some .boolean)] ++ wsX80)
def wsX8_log : List Cond := .code yX8_log cX8_log 5 (some .int) :: ([.constantLong RX8 191 (-1), .constantLong RX8 193 (16), .fieldLink RX8 50 "OrreryDialsModel" "many" "[I", .fieldLink RX8 53 "OrreryDialsModel" "floats" "[F", .fieldLink RX8 56 "OrreryDialsModel" "doubles" "[D", .methodLink RX8 188 yX8_isLog, .static yX8_isLog, .initialized RX8, .code yX8_isLog cX8_isLog 1 (some .boolean), .constantLong RX8 186 (7), .methodLink RX8 100 yX8_in, .static yX8_in, .code yX8_in cX8_in 6 (some .boolean), .methodLink RX8 195 yX8_rowOf, .static yX8_rowOf, .code yX8_rowOf cX8_rowOf 2 (some .int)] ++ wsX80)
def wsX8_write_r1 : List Cond := [Cond.fieldLink RX8 56 "OrreryDialsModel" "doubles" "[D", Cond.fieldLink RX8 53 "OrreryDialsModel" "floats" "[F", Cond.methodLink RX8 188 yX8_isLog, Cond.static yX8_isLog, Cond.initialized RX8, Cond.code yX8_isLog cX8_isLog 1 (some .boolean), Cond.constantLong RX8 186 (7), Cond.methodLink RX8 100 yX8_in, Cond.static yX8_in, Cond.code yX8_in cX8_in 6 (some .boolean), Cond.methodLink RX8 104 yX8_isFit, Cond.static yX8_isFit, Cond.code yX8_isFit cX8_isFit 3 (some .boolean), Cond.methodLink RX8 72 yX8_isFitDouble, Cond.static yX8_isFitDouble, Cond.code yX8_isFitDouble cX8_isFitDouble 2 (some .boolean), Cond.constantLong RX8 70 (9218868437227405312), Cond.methodLink RX8 76 yX8_isFitFloat, Cond.static yX8_isFitFloat, Cond.code yX8_isFitFloat cX8_isFitFloat 2 (some .boolean), Cond.constant RX8 69 (2139095040), Cond.methodLink RX8 195 yX8_rowOf, Cond.static yX8_rowOf, Cond.code yX8_rowOf cX8_rowOf 2 (some .int)]
def wsX8_write_r2 : List Cond := [Cond.methodLink RX8 199 yX8_cause, Cond.instanceMethod yX8_cause, Cond.selects RX8 yX8_cause yX8_cause, Cond.code yX8_cause cX8_cause 3 (some .int), Cond.fieldLink RX8 50 "OrreryDialsModel" "many" "[I", Cond.methodLink RX8 143 yX8_fails, Cond.instanceMethod yX8_fails, Cond.selects RX8 yX8_fails yX8_fails, Cond.code yX8_fails cX8_fails 2 (some .int), Cond.fieldLink RX8 66 "OrreryDialsModel" "failed" "I", Cond.fieldLink RX8 59 "OrreryDialsModel" "counts" "[I", Cond.methodLink RX8 108 yX8_doubleOf, Cond.static yX8_doubleOf, Cond.code yX8_doubleOf cX8_doubleOf 2 (some .double), Cond.methodLink RX8 94 ⟨"java/lang/Double", "longBitsToDouble", "(J)D"⟩, Cond.native ⟨"java/lang/Double", "longBitsToDouble", "(J)D"⟩, Cond.static ⟨"java/lang/Double", "longBitsToDouble", "(J)D"⟩, Cond.initialized "java/lang/Double", Cond.methodLink RX8 111 yX8_floatOf, Cond.static yX8_floatOf, Cond.code yX8_floatOf cX8_floatOf 2 (some .float), Cond.methodLink RX8 88 ⟨"java/lang/Float", "intBitsToFloat", "(I)F"⟩, Cond.native ⟨"java/lang/Float", "intBitsToFloat", "(I)F"⟩, Cond.static ⟨"java/lang/Float", "intBitsToFloat", "(I)F"⟩]
def wsX8_write_r3 : List Cond := [Cond.initialized "java/lang/Float", Cond.methodLink RX8 139 yX8_done, Cond.instanceMethod yX8_done, Cond.selects RX8 yX8_done yX8_done, Cond.code yX8_done cX8_done 2 (some .int)]
def wsX8_write : List Cond := .code yX8_write cX8_write 7 (some .int) :: ((wsX8_write_r1 ++ (wsX8_write_r2 ++ wsX8_write_r3)) ++ wsX80)
def wsX8_read_r1 : List Cond := [Cond.fieldLink RX8 56 "OrreryDialsModel" "doubles" "[D", Cond.fieldLink RX8 53 "OrreryDialsModel" "floats" "[F", Cond.fieldLink RX8 202 "OrreryDialsModel" "seen" "J", Cond.methodLink RX8 188 yX8_isLog, Cond.static yX8_isLog, Cond.initialized RX8, Cond.code yX8_isLog cX8_isLog 1 (some .boolean), Cond.constantLong RX8 186 (7), Cond.methodLink RX8 100 yX8_in, Cond.static yX8_in, Cond.code yX8_in cX8_in 6 (some .boolean), Cond.methodLink RX8 195 yX8_rowOf, Cond.static yX8_rowOf, Cond.code yX8_rowOf cX8_rowOf 2 (some .int), Cond.methodLink RX8 199 yX8_cause, Cond.instanceMethod yX8_cause, Cond.selects RX8 yX8_cause yX8_cause, Cond.code yX8_cause cX8_cause 3 (some .int), Cond.fieldLink RX8 50 "OrreryDialsModel" "many" "[I", Cond.methodLink RX8 143 yX8_fails, Cond.instanceMethod yX8_fails, Cond.selects RX8 yX8_fails yX8_fails, Cond.code yX8_fails cX8_fails 2 (some .int), Cond.fieldLink RX8 66 "OrreryDialsModel" "failed" "I"]
def wsX8_read_r2 : List Cond := [Cond.fieldLink RX8 59 "OrreryDialsModel" "counts" "[I", Cond.methodLink RX8 148 yJxe99ae_doubleToLongBits_ccdee, Cond.static yJxe99ae_doubleToLongBits_ccdee, Cond.initialized RJxe99ae, Cond.code yJxe99ae_doubleToLongBits_ccdee cJxe99ae_doubleToLongBits_ccdee 2 (some .long), Cond.methodLink RJxe99ae 134 ⟨"java/lang/Double", "doubleToRawLongBits", "(D)J"⟩, Cond.native ⟨"java/lang/Double", "doubleToRawLongBits", "(D)J"⟩, Cond.static ⟨"java/lang/Double", "doubleToRawLongBits", "(D)J"⟩, Cond.initialized "java/lang/Double", Cond.constantLong RJxe99ae 137 (9221120237041090560), Cond.methodLink RJxe99ae 122 yJxe99ae_isNaN_b9ae7, Cond.static yJxe99ae_isNaN_b9ae7, Cond.code yJxe99ae_isNaN_b9ae7 cJxe99ae_isNaN_b9ae7 2 (some .boolean), Cond.methodLink RX8 152 yJxf58ca_floatToIntBits_5c35a, Cond.static yJxf58ca_floatToIntBits_5c35a, Cond.initialized RJxf58ca, Cond.code yJxf58ca_floatToIntBits_5c35a cJxf58ca_floatToIntBits_5c35a 1 (some .int), Cond.methodLink RJxf58ca 74 ⟨"java/lang/Float", "floatToRawIntBits", "(F)I"⟩, Cond.native ⟨"java/lang/Float", "floatToRawIntBits", "(F)I"⟩, Cond.static ⟨"java/lang/Float", "floatToRawIntBits", "(F)I"⟩, Cond.initialized "java/lang/Float", Cond.constant RJxf58ca 77 (2143289344), Cond.methodLink RJxf58ca 59 yJxf58ca_isNaN_12338, Cond.static yJxf58ca_isNaN_12338]
def wsX8_read_r3 : List Cond := [Cond.code yJxf58ca_isNaN_12338 cJxf58ca_isNaN_12338 1 (some .boolean), Cond.methodLink RX8 139 yX8_done, Cond.instanceMethod yX8_done, Cond.selects RX8 yX8_done yX8_done, Cond.code yX8_done cX8_done 2 (some .int)]
def wsX8_read : List Cond := .code yX8_read cX8_read 5 (some .int) :: ((wsX8_read_r1 ++ (wsX8_read_r2 ++ wsX8_read_r3)) ++ wsX80)
def wsX8_seen : List Cond := .code yX8_seen cX8_seen 1 (some .long) :: ([.fieldLink RX8 202 "OrreryDialsModel" "seen" "J"] ++ wsX80)
def wsX8_note_r1 : List Cond := [Cond.fieldLink RX8 56 "OrreryDialsModel" "doubles" "[D", Cond.fieldLink RX8 7 "OrreryDialsModel" "isFine" "[Z", Cond.fieldLink RX8 24 "OrreryDialsModel" "placeD" "[D", Cond.fieldLink RX8 17 "OrreryDialsModel" "placeF" "[F", Cond.fieldLink RX8 53 "OrreryDialsModel" "floats" "[F", Cond.methodLink RX8 188 yX8_isLog, Cond.static yX8_isLog, Cond.initialized RX8, Cond.code yX8_isLog cX8_isLog 1 (some .boolean), Cond.constantLong RX8 186 (7), Cond.methodLink RX8 100 yX8_in, Cond.static yX8_in, Cond.code yX8_in cX8_in 6 (some .boolean), Cond.methodLink RX8 131 yX8_isDial, Cond.instanceMethod yX8_isDial, Cond.selects RX8 yX8_isDial yX8_isDial, Cond.code yX8_isDial cX8_isDial 2 (some .boolean), Cond.fieldLink RX8 62 "OrreryDialsModel" "dials" "I", Cond.methodLink RX8 195 yX8_rowOf, Cond.static yX8_rowOf, Cond.code yX8_rowOf cX8_rowOf 2 (some .int), Cond.methodLink RX8 199 yX8_cause, Cond.instanceMethod yX8_cause, Cond.selects RX8 yX8_cause yX8_cause]
def wsX8_note_r2 : List Cond := [Cond.code yX8_cause cX8_cause 3 (some .int), Cond.fieldLink RX8 50 "OrreryDialsModel" "many" "[I", Cond.methodLink RX8 143 yX8_fails, Cond.instanceMethod yX8_fails, Cond.selects RX8 yX8_fails yX8_fails, Cond.code yX8_fails cX8_fails 2 (some .int), Cond.fieldLink RX8 66 "OrreryDialsModel" "failed" "I", Cond.fieldLink RX8 59 "OrreryDialsModel" "counts" "[I", Cond.methodLink RX8 139 yX8_done, Cond.instanceMethod yX8_done, Cond.selects RX8 yX8_done yX8_done, Cond.code yX8_done cX8_done 2 (some .int)]
def wsX8_note : List Cond := .code yX8_note cX8_note 6 (some .int) :: ((wsX8_note_r1 ++ wsX8_note_r2) ++ wsX80)
def wsX8_recall_r1 : List Cond := [Cond.fieldLink RX8 56 "OrreryDialsModel" "doubles" "[D", Cond.fieldLink RX8 53 "OrreryDialsModel" "floats" "[F", Cond.fieldLink RX8 7 "OrreryDialsModel" "isFine" "[Z", Cond.fieldLink RX8 24 "OrreryDialsModel" "placeD" "[D", Cond.fieldLink RX8 20 "OrreryDialsModel" "rimD" "[D", Cond.fieldLink RX8 17 "OrreryDialsModel" "placeF" "[F", Cond.fieldLink RX8 13 "OrreryDialsModel" "rimF" "[F", Cond.methodLink RX8 188 yX8_isLog, Cond.static yX8_isLog, Cond.initialized RX8, Cond.code yX8_isLog cX8_isLog 1 (some .boolean), Cond.constantLong RX8 186 (7), Cond.methodLink RX8 100 yX8_in, Cond.static yX8_in, Cond.code yX8_in cX8_in 6 (some .boolean), Cond.methodLink RX8 131 yX8_isDial, Cond.instanceMethod yX8_isDial, Cond.selects RX8 yX8_isDial yX8_isDial, Cond.code yX8_isDial cX8_isDial 2 (some .boolean), Cond.fieldLink RX8 62 "OrreryDialsModel" "dials" "I", Cond.methodLink RX8 195 yX8_rowOf, Cond.static yX8_rowOf, Cond.code yX8_rowOf cX8_rowOf 2 (some .int), Cond.methodLink RX8 199 yX8_cause]
def wsX8_recall_r2 : List Cond := [Cond.instanceMethod yX8_cause, Cond.selects RX8 yX8_cause yX8_cause, Cond.code yX8_cause cX8_cause 3 (some .int), Cond.fieldLink RX8 50 "OrreryDialsModel" "many" "[I", Cond.methodLink RX8 143 yX8_fails, Cond.instanceMethod yX8_fails, Cond.selects RX8 yX8_fails yX8_fails, Cond.code yX8_fails cX8_fails 2 (some .int), Cond.fieldLink RX8 66 "OrreryDialsModel" "failed" "I", Cond.fieldLink RX8 59 "OrreryDialsModel" "counts" "[I", Cond.methodLink RX8 119 yX8_isEndless, Cond.static yX8_isEndless, Cond.code yX8_isEndless cX8_isEndless 2 (some .boolean), Cond.constantDouble RX8 82 (9218868437227405311), Cond.constantDouble RX8 84 (18442240474082181119), Cond.methodLink RX8 115 yX8_isEndlessFloat, Cond.static yX8_isEndlessFloat, Cond.code yX8_isEndlessFloat cX8_isEndlessFloat 1 (some .boolean), Cond.constantFloat RX8 86 (2139095039), Cond.constantFloat RX8 87 (4286578687), Cond.methodLink RX8 139 yX8_done, Cond.instanceMethod yX8_done, Cond.selects RX8 yX8_done yX8_done, Cond.code yX8_done cX8_done 2 (some .int)]
def wsX8_recall : List Cond := .code yX8_recall cX8_recall 9 (some .int) :: ((wsX8_recall_r1 ++ wsX8_recall_r2) ++ wsX80)
def wsX8_sift_r1 : List Cond := [Cond.fieldLink RX8 50 "OrreryDialsModel" "many" "[I", Cond.fieldLink RX8 56 "OrreryDialsModel" "doubles" "[D", Cond.fieldLink RX8 53 "OrreryDialsModel" "floats" "[F", Cond.fieldLink RX8 202 "OrreryDialsModel" "seen" "J", Cond.methodLink RX8 188 yX8_isLog, Cond.static yX8_isLog, Cond.initialized RX8, Cond.code yX8_isLog cX8_isLog 1 (some .boolean), Cond.constantLong RX8 186 (7), Cond.methodLink RX8 100 yX8_in, Cond.static yX8_in, Cond.code yX8_in cX8_in 6 (some .boolean), Cond.methodLink RX8 104 yX8_isFit, Cond.static yX8_isFit, Cond.code yX8_isFit cX8_isFit 3 (some .boolean), Cond.methodLink RX8 72 yX8_isFitDouble, Cond.static yX8_isFitDouble, Cond.code yX8_isFitDouble cX8_isFitDouble 2 (some .boolean), Cond.constantLong RX8 70 (9218868437227405312), Cond.methodLink RX8 76 yX8_isFitFloat, Cond.static yX8_isFitFloat, Cond.code yX8_isFitFloat cX8_isFitFloat 2 (some .boolean), Cond.constant RX8 69 (2139095040), Cond.methodLink RX8 195 yX8_rowOf]
def wsX8_sift_r2 : List Cond := [Cond.static yX8_rowOf, Cond.code yX8_rowOf cX8_rowOf 2 (some .int), Cond.methodLink RX8 143 yX8_fails, Cond.instanceMethod yX8_fails, Cond.selects RX8 yX8_fails yX8_fails, Cond.code yX8_fails cX8_fails 2 (some .int), Cond.fieldLink RX8 66 "OrreryDialsModel" "failed" "I", Cond.fieldLink RX8 59 "OrreryDialsModel" "counts" "[I", Cond.methodLink RX8 111 yX8_floatOf, Cond.static yX8_floatOf, Cond.code yX8_floatOf cX8_floatOf 2 (some .float), Cond.methodLink RX8 88 ⟨"java/lang/Float", "intBitsToFloat", "(I)F"⟩, Cond.native ⟨"java/lang/Float", "intBitsToFloat", "(I)F"⟩, Cond.static ⟨"java/lang/Float", "intBitsToFloat", "(I)F"⟩, Cond.initialized "java/lang/Float", Cond.methodLink RX8 108 yX8_doubleOf, Cond.static yX8_doubleOf, Cond.code yX8_doubleOf cX8_doubleOf 2 (some .double), Cond.methodLink RX8 94 ⟨"java/lang/Double", "longBitsToDouble", "(J)D"⟩, Cond.native ⟨"java/lang/Double", "longBitsToDouble", "(J)D"⟩, Cond.static ⟨"java/lang/Double", "longBitsToDouble", "(J)D"⟩, Cond.initialized "java/lang/Double", Cond.methodLink RX8 148 yJxe99ae_doubleToLongBits_ccdee, Cond.static yJxe99ae_doubleToLongBits_ccdee]
def wsX8_sift_r3 : List Cond := [Cond.initialized RJxe99ae, Cond.code yJxe99ae_doubleToLongBits_ccdee cJxe99ae_doubleToLongBits_ccdee 2 (some .long), Cond.methodLink RJxe99ae 134 ⟨"java/lang/Double", "doubleToRawLongBits", "(D)J"⟩, Cond.native ⟨"java/lang/Double", "doubleToRawLongBits", "(D)J"⟩, Cond.static ⟨"java/lang/Double", "doubleToRawLongBits", "(D)J"⟩, Cond.constantLong RJxe99ae 137 (9221120237041090560), Cond.methodLink RJxe99ae 122 yJxe99ae_isNaN_b9ae7, Cond.static yJxe99ae_isNaN_b9ae7, Cond.code yJxe99ae_isNaN_b9ae7 cJxe99ae_isNaN_b9ae7 2 (some .boolean), Cond.methodLink RX8 152 yJxf58ca_floatToIntBits_5c35a, Cond.static yJxf58ca_floatToIntBits_5c35a, Cond.initialized RJxf58ca, Cond.code yJxf58ca_floatToIntBits_5c35a cJxf58ca_floatToIntBits_5c35a 1 (some .int), Cond.methodLink RJxf58ca 74 ⟨"java/lang/Float", "floatToRawIntBits", "(F)I"⟩, Cond.native ⟨"java/lang/Float", "floatToRawIntBits", "(F)I"⟩, Cond.static ⟨"java/lang/Float", "floatToRawIntBits", "(F)I"⟩, Cond.constant RJxf58ca 77 (2143289344), Cond.methodLink RJxf58ca 59 yJxf58ca_isNaN_12338, Cond.static yJxf58ca_isNaN_12338, Cond.code yJxf58ca_isNaN_12338 cJxf58ca_isNaN_12338 1 (some .boolean), Cond.methodLink RX8 139 yX8_done, Cond.instanceMethod yX8_done, Cond.selects RX8 yX8_done yX8_done, Cond.code yX8_done cX8_done 2 (some .int)]
def wsX8_sift : List Cond := .code yX8_sift cX8_sift 12 (some .int) :: ((wsX8_sift_r1 ++ (wsX8_sift_r2 ++ wsX8_sift_r3)) ++ wsX80)
def wsX8_castReal : List Cond := .code yX8_castReal cX8_castReal 3 (some .long) :: ([.methodLink RX8 152 yJxf58ca_floatToIntBits_5c35a, .static yJxf58ca_floatToIntBits_5c35a, .initialized RJxf58ca, .code yJxf58ca_floatToIntBits_5c35a cJxf58ca_floatToIntBits_5c35a 1 (some .int), .methodLink RJxf58ca 74 ⟨"java/lang/Float", "floatToRawIntBits", "(F)I"⟩, .native ⟨"java/lang/Float", "floatToRawIntBits", "(F)I"⟩, .static ⟨"java/lang/Float", "floatToRawIntBits", "(F)I"⟩, .initialized "java/lang/Float", .constant RJxf58ca 77 (2143289344), .methodLink RJxf58ca 59 yJxf58ca_isNaN_12338, .static yJxf58ca_isNaN_12338, .code yJxf58ca_isNaN_12338 cJxf58ca_isNaN_12338 1 (some .boolean), .methodLink RX8 148 yJxe99ae_doubleToLongBits_ccdee, .static yJxe99ae_doubleToLongBits_ccdee, .initialized RJxe99ae, .code yJxe99ae_doubleToLongBits_ccdee cJxe99ae_doubleToLongBits_ccdee 2 (some .long), .methodLink RJxe99ae 134 ⟨"java/lang/Double", "doubleToRawLongBits", "(D)J"⟩, .native ⟨"java/lang/Double", "doubleToRawLongBits", "(D)J"⟩, .static ⟨"java/lang/Double", "doubleToRawLongBits", "(D)J"⟩, .initialized "java/lang/Double", .constantLong RJxe99ae 137 (9221120237041090560), .methodLink RJxe99ae 122 yJxe99ae_isNaN_b9ae7, .static yJxe99ae_isNaN_b9ae7, .code yJxe99ae_isNaN_b9ae7 cJxe99ae_isNaN_b9ae7 2 (some .boolean)])
def wsX8_castWhole : List Cond := .code yX8_castWhole cX8_castWhole 3 (some .long) :: ([.methodLink RX8 152 yJxf58ca_floatToIntBits_5c35a, .static yJxf58ca_floatToIntBits_5c35a, .initialized RJxf58ca, .code yJxf58ca_floatToIntBits_5c35a cJxf58ca_floatToIntBits_5c35a 1 (some .int), .methodLink RJxf58ca 74 ⟨"java/lang/Float", "floatToRawIntBits", "(F)I"⟩, .native ⟨"java/lang/Float", "floatToRawIntBits", "(F)I"⟩, .static ⟨"java/lang/Float", "floatToRawIntBits", "(F)I"⟩, .initialized "java/lang/Float", .constant RJxf58ca 77 (2143289344), .methodLink RJxf58ca 59 yJxf58ca_isNaN_12338, .static yJxf58ca_isNaN_12338, .code yJxf58ca_isNaN_12338 cJxf58ca_isNaN_12338 1 (some .boolean), .methodLink RX8 148 yJxe99ae_doubleToLongBits_ccdee, .static yJxe99ae_doubleToLongBits_ccdee, .initialized RJxe99ae, .code yJxe99ae_doubleToLongBits_ccdee cJxe99ae_doubleToLongBits_ccdee 2 (some .long), .methodLink RJxe99ae 134 ⟨"java/lang/Double", "doubleToRawLongBits", "(D)J"⟩, .native ⟨"java/lang/Double", "doubleToRawLongBits", "(D)J"⟩, .static ⟨"java/lang/Double", "doubleToRawLongBits", "(D)J"⟩, .initialized "java/lang/Double", .constantLong RJxe99ae 137 (9221120237041090560), .methodLink RJxe99ae 122 yJxe99ae_isNaN_b9ae7, .static yJxe99ae_isNaN_b9ae7, .code yJxe99ae_isNaN_b9ae7 cJxe99ae_isNaN_b9ae7 2 (some .boolean)])
def wsX8_cast_r1 : List Cond := [Cond.constantLong RX8 184 (3), Cond.fieldLink RX8 202 "OrreryDialsModel" "seen" "J", Cond.methodLink RX8 100 yX8_in, Cond.static yX8_in, Cond.initialized RX8, Cond.code yX8_in cX8_in 6 (some .boolean), Cond.methodLink RX8 206 yX8_isNone, Cond.static yX8_isNone, Cond.code yX8_isNone cX8_isNone 3 (some .boolean), Cond.constant RX8 79 (2147483647), Cond.constant RX8 69 (2139095040), Cond.constantLong RX8 80 (9223372036854775807), Cond.constantLong RX8 70 (9218868437227405312), Cond.methodLink RX8 209 yX8_castWhole, Cond.static yX8_castWhole, Cond.code yX8_castWhole cX8_castWhole 3 (some .long), Cond.methodLink RX8 152 yJxf58ca_floatToIntBits_5c35a, Cond.static yJxf58ca_floatToIntBits_5c35a, Cond.initialized RJxf58ca, Cond.code yJxf58ca_floatToIntBits_5c35a cJxf58ca_floatToIntBits_5c35a 1 (some .int), Cond.methodLink RJxf58ca 74 ⟨"java/lang/Float", "floatToRawIntBits", "(F)I"⟩, Cond.native ⟨"java/lang/Float", "floatToRawIntBits", "(F)I"⟩, Cond.static ⟨"java/lang/Float", "floatToRawIntBits", "(F)I"⟩, Cond.initialized "java/lang/Float"]
def wsX8_cast_r2 : List Cond := [Cond.constant RJxf58ca 77 (2143289344), Cond.methodLink RJxf58ca 59 yJxf58ca_isNaN_12338, Cond.static yJxf58ca_isNaN_12338, Cond.code yJxf58ca_isNaN_12338 cJxf58ca_isNaN_12338 1 (some .boolean), Cond.methodLink RX8 148 yJxe99ae_doubleToLongBits_ccdee, Cond.static yJxe99ae_doubleToLongBits_ccdee, Cond.initialized RJxe99ae, Cond.code yJxe99ae_doubleToLongBits_ccdee cJxe99ae_doubleToLongBits_ccdee 2 (some .long), Cond.methodLink RJxe99ae 134 ⟨"java/lang/Double", "doubleToRawLongBits", "(D)J"⟩, Cond.native ⟨"java/lang/Double", "doubleToRawLongBits", "(D)J"⟩, Cond.static ⟨"java/lang/Double", "doubleToRawLongBits", "(D)J"⟩, Cond.initialized "java/lang/Double", Cond.constantLong RJxe99ae 137 (9221120237041090560), Cond.methodLink RJxe99ae 122 yJxe99ae_isNaN_b9ae7, Cond.static yJxe99ae_isNaN_b9ae7, Cond.code yJxe99ae_isNaN_b9ae7 cJxe99ae_isNaN_b9ae7 2 (some .boolean), Cond.methodLink RX8 111 yX8_floatOf, Cond.static yX8_floatOf, Cond.code yX8_floatOf cX8_floatOf 2 (some .float), Cond.methodLink RX8 88 ⟨"java/lang/Float", "intBitsToFloat", "(I)F"⟩, Cond.native ⟨"java/lang/Float", "intBitsToFloat", "(I)F"⟩, Cond.static ⟨"java/lang/Float", "intBitsToFloat", "(I)F"⟩, Cond.methodLink RX8 108 yX8_doubleOf, Cond.static yX8_doubleOf]
def wsX8_cast_r3 : List Cond := [Cond.code yX8_doubleOf cX8_doubleOf 2 (some .double), Cond.methodLink RX8 94 ⟨"java/lang/Double", "longBitsToDouble", "(J)D"⟩, Cond.native ⟨"java/lang/Double", "longBitsToDouble", "(J)D"⟩, Cond.static ⟨"java/lang/Double", "longBitsToDouble", "(J)D"⟩, Cond.methodLink RX8 213 yX8_castReal, Cond.static yX8_castReal, Cond.code yX8_castReal cX8_castReal 3 (some .long)]
def wsX8_cast : List Cond := .code yX8_cast cX8_cast 5 (some .int) :: ((wsX8_cast_r1 ++ (wsX8_cast_r2 ++ wsX8_cast_r3)) ++ wsX80)
def wsX8_left_r1 : List Cond := [Cond.fieldLink RX8 202 "OrreryDialsModel" "seen" "J", Cond.methodLink RX8 206 yX8_isNone, Cond.static yX8_isNone, Cond.initialized RX8, Cond.code yX8_isNone cX8_isNone 3 (some .boolean), Cond.constant RX8 79 (2147483647), Cond.constant RX8 69 (2139095040), Cond.constantLong RX8 80 (9223372036854775807), Cond.constantLong RX8 70 (9218868437227405312), Cond.methodLink RX8 104 yX8_isFit, Cond.static yX8_isFit, Cond.code yX8_isFit cX8_isFit 3 (some .boolean), Cond.methodLink RX8 72 yX8_isFitDouble, Cond.static yX8_isFitDouble, Cond.code yX8_isFitDouble cX8_isFitDouble 2 (some .boolean), Cond.methodLink RX8 76 yX8_isFitFloat, Cond.static yX8_isFitFloat, Cond.code yX8_isFitFloat cX8_isFitFloat 2 (some .boolean), Cond.methodLink RX8 108 yX8_doubleOf, Cond.static yX8_doubleOf, Cond.code yX8_doubleOf cX8_doubleOf 2 (some .double), Cond.methodLink RX8 94 ⟨"java/lang/Double", "longBitsToDouble", "(J)D"⟩, Cond.native ⟨"java/lang/Double", "longBitsToDouble", "(J)D"⟩, Cond.static ⟨"java/lang/Double", "longBitsToDouble", "(J)D"⟩]
def wsX8_left_r2 : List Cond := [Cond.initialized "java/lang/Double", Cond.methodLink RX8 111 yX8_floatOf, Cond.static yX8_floatOf, Cond.code yX8_floatOf cX8_floatOf 2 (some .float), Cond.methodLink RX8 88 ⟨"java/lang/Float", "intBitsToFloat", "(I)F"⟩, Cond.native ⟨"java/lang/Float", "intBitsToFloat", "(I)F"⟩, Cond.static ⟨"java/lang/Float", "intBitsToFloat", "(I)F"⟩, Cond.initialized "java/lang/Float", Cond.methodLink RX8 148 yJxe99ae_doubleToLongBits_ccdee, Cond.static yJxe99ae_doubleToLongBits_ccdee, Cond.initialized RJxe99ae, Cond.code yJxe99ae_doubleToLongBits_ccdee cJxe99ae_doubleToLongBits_ccdee 2 (some .long), Cond.methodLink RJxe99ae 134 ⟨"java/lang/Double", "doubleToRawLongBits", "(D)J"⟩, Cond.native ⟨"java/lang/Double", "doubleToRawLongBits", "(D)J"⟩, Cond.static ⟨"java/lang/Double", "doubleToRawLongBits", "(D)J"⟩, Cond.constantLong RJxe99ae 137 (9221120237041090560), Cond.methodLink RJxe99ae 122 yJxe99ae_isNaN_b9ae7, Cond.static yJxe99ae_isNaN_b9ae7, Cond.code yJxe99ae_isNaN_b9ae7 cJxe99ae_isNaN_b9ae7 2 (some .boolean), Cond.methodLink RX8 152 yJxf58ca_floatToIntBits_5c35a, Cond.static yJxf58ca_floatToIntBits_5c35a, Cond.initialized RJxf58ca, Cond.code yJxf58ca_floatToIntBits_5c35a cJxf58ca_floatToIntBits_5c35a 1 (some .int), Cond.methodLink RJxf58ca 74 ⟨"java/lang/Float", "floatToRawIntBits", "(F)I"⟩]
def wsX8_left_r3 : List Cond := [Cond.native ⟨"java/lang/Float", "floatToRawIntBits", "(F)I"⟩, Cond.static ⟨"java/lang/Float", "floatToRawIntBits", "(F)I"⟩, Cond.constant RJxf58ca 77 (2143289344), Cond.methodLink RJxf58ca 59 yJxf58ca_isNaN_12338, Cond.static yJxf58ca_isNaN_12338, Cond.code yJxf58ca_isNaN_12338 cJxf58ca_isNaN_12338 1 (some .boolean)]
def wsX8_left : List Cond := .code yX8_left cX8_left 7 (some .int) :: ((wsX8_left_r1 ++ (wsX8_left_r2 ++ wsX8_left_r3)) ++ wsX80)
def wsX8_failed : List Cond := .code yX8_failed cX8_failed 1 (some .int) :: ([.fieldLink RX8 66 "OrreryDialsModel" "failed" "I"] ++ wsX80)
def wsX8_about : List Cond := .code yX8_about cX8_about 2 (some .int) :: ([.fieldLink RX8 62 "OrreryDialsModel" "dials" "I", .fieldLink RX8 156 "OrreryDialsModel" "drives" "I", .constantLong RX8 161 (2), .constantLong RX8 217 (6), .fieldLink RX8 59 "OrreryDialsModel" "counts" "[I", .methodLink RX8 100 yX8_in, .static yX8_in, .initialized RX8, .code yX8_in cX8_in 6 (some .boolean)] ++ wsX80)
def wsJ9_abs_067f4 : List Cond := .code yJ9_abs_067f4 cJ9_abs_067f4 2 (some .long) :: ([])
def wsJ9_max_7cf53 : List Cond := .code yJ9_max_7cf53 cJ9_max_7cf53 2 (some .int) :: ([])
def wsJ9_max_f86c9 : List Cond := .code yJ9_max_f86c9 cJ9_max_f86c9 4 (some .long) :: ([])
def wsJ9_min_7cf53 : List Cond := .code yJ9_min_7cf53 cJ9_min_7cf53 2 (some .int) :: ([])
def wsJ9_min_f86c9 : List Cond := .code yJ9_min_f86c9 cJ9_min_f86c9 4 (some .long) :: ([])
def wsL_law_r1 : List Cond := [Cond.classLink RL 7 RX7, Cond.instantiable RX7 10, Cond.initialized RX7, Cond.classLink RL 10 RX8, Cond.instantiable RX8 20, Cond.initialized RX8, Cond.constantLong RL 13 (4294967295), Cond.methodLink RL 9 yX7_init, Cond.instanceMethod yX7_init, Cond.code yX7_init cX7_init 2 none, Cond.methodLink RX7 1 objectInit, Cond.instanceMethod objectInit, Cond.code objectInit ⟨#[0xb1]⟩ 1 none, Cond.classLink RX7 9 RX1, Cond.fieldLink RX7 11 "OrreryDials" "dials" "[LOrreryDials$Dial;", Cond.fieldLink RX7 15 "OrreryDials" "dialCount" "I", Cond.classLink RX7 19 RX2, Cond.fieldLink RX7 21 "OrreryDials" "drives" "[LOrreryDials$Drive;", Cond.fieldLink RX7 25 "OrreryDials" "driveCount" "I", Cond.fieldLink RX7 28 "OrreryDials" "slots" "[LOrreryDials$Drive;", Cond.fieldLink RX7 31 "OrreryDials" "shaftPlaces" "[LOrreryDials$Drive;", Cond.classLink RX7 34 RX5, Cond.fieldLink RX7 36 "OrreryDials" "rows" "[LOrreryDials$Row;", Cond.fieldLink RX7 40 "OrreryDials" "seenBits" "J"]
def wsL_law_r2 : List Cond := [Cond.fieldLink RX7 44 "OrreryDials" "latestFailure" "I", Cond.arrayClass .int, Cond.fieldLink RX7 47 "OrreryDials" "failureCounts" "[I", Cond.instantiable RX5 2, Cond.initialized RX5, Cond.instanceMethod yX5_init, Cond.code yX5_init cX5_init 1 none, Cond.methodLink RX5 3 objectInit, Cond.arrayClass .long, Cond.fieldLink RX5 9 "OrreryDials$Row" "places" "[J", Cond.fieldLink RX5 15 "OrreryDials$Row" "size" "I", Cond.methodLink RL 12 yX8_init, Cond.instanceMethod yX8_init, Cond.code yX8_init cX8_init 1 none, Cond.methodLink RX8 1 objectInit, Cond.arrayClass .boolean, Cond.fieldLink RX8 7 "OrreryDialsModel" "isFine" "[Z", Cond.arrayClass .float, Cond.fieldLink RX8 13 "OrreryDialsModel" "rimF" "[F", Cond.fieldLink RX8 17 "OrreryDialsModel" "placeF" "[F", Cond.arrayClass .double, Cond.fieldLink RX8 20 "OrreryDialsModel" "rimD" "[D", Cond.fieldLink RX8 24 "OrreryDialsModel" "placeD" "[D", Cond.fieldLink RX8 27 "OrreryDialsModel" "lapsOf" "[J"]
def wsL_law_r3 : List Cond := [Cond.fieldLink RX8 31 "OrreryDialsModel" "sortOf" "[I", Cond.fieldLink RX8 35 "OrreryDialsModel" "pullOf" "[D", Cond.fieldLink RX8 38 "OrreryDialsModel" "gearOf" "[I", Cond.fieldLink RX8 41 "OrreryDialsModel" "pulled" "[I", Cond.fieldLink RX8 44 "OrreryDialsModel" "slots" "[I", Cond.fieldLink RX8 47 "OrreryDialsModel" "shafts" "[I", Cond.fieldLink RX8 50 "OrreryDialsModel" "many" "[I", Cond.fieldLink RX8 53 "OrreryDialsModel" "floats" "[F", Cond.fieldLink RX8 56 "OrreryDialsModel" "doubles" "[D", Cond.fieldLink RX8 59 "OrreryDialsModel" "counts" "[I", Cond.fieldLink RX8 62 "OrreryDialsModel" "dials" "I", Cond.methodLink RL 15 yX7_dial, Cond.instanceMethod yX7_dial, Cond.selects RX7 yX7_dial yX7_dial, Cond.code yX7_dial cX7_dial 6 (some .int), Cond.instantiable RX1 4, Cond.initialized RX1, Cond.methodLink RX7 52 yX4_told, Cond.static yX4_told, Cond.initialized RX4, Cond.code yX4_told cX4_told 3 (some .long), Cond.methodLink RX7 58 yX4_isFit, Cond.static yX4_isFit, Cond.code yX4_isFit cX4_isFit 3 (some .boolean)]
def wsL_law_r4 : List Cond := [Cond.methodLink RX4 7 yX4_sizeOf, Cond.static yX4_sizeOf, Cond.code yX4_sizeOf cX4_sizeOf 3 (some .long), Cond.constantLong RX4 68 (9223372036854775807), Cond.constantLong RX4 82 (2147483647), Cond.methodLink RX4 13 yX4_endless, Cond.static yX4_endless, Cond.code yX4_endless cX4_endless 1 (some .long), Cond.constantLong RX4 86 (9218868437227405312), Cond.constantLong RX4 88 (2139095040), Cond.methodLink RX7 62 yX4_isZero, Cond.static yX4_isZero, Cond.code yX4_isZero cX4_isZero 3 (some .boolean), Cond.methodLink RX7 65 yX1_init, Cond.instanceMethod yX1_init, Cond.code yX1_init cX1_init 4 none, Cond.methodLink RX1 1 objectInit, Cond.fieldLink RX1 7 "OrreryDials$Dial" "place" "J", Cond.fieldLink RX1 13 "OrreryDials$Dial" "laps" "J", Cond.fieldLink RX1 16 "OrreryDials$Dial" "fine" "Z", Cond.fieldLink RX1 20 "OrreryDials$Dial" "rim" "J", Cond.methodLink RL 19 yX8_dial, Cond.instanceMethod yX8_dial, Cond.selects RX8 yX8_dial yX8_dial]
def wsL_law_r5 : List Cond := [Cond.code yX8_dial cX8_dial 4 (some .int), Cond.methodLink RX8 104 yX8_isFit, Cond.static yX8_isFit, Cond.code yX8_isFit cX8_isFit 3 (some .boolean), Cond.methodLink RX8 72 yX8_isFitDouble, Cond.static yX8_isFitDouble, Cond.code yX8_isFitDouble cX8_isFitDouble 2 (some .boolean), Cond.constantLong RX8 70 (9218868437227405312), Cond.methodLink RX8 76 yX8_isFitFloat, Cond.static yX8_isFitFloat, Cond.code yX8_isFitFloat cX8_isFitFloat 2 (some .boolean), Cond.constant RX8 69 (2139095040), Cond.methodLink RX8 108 yX8_doubleOf, Cond.static yX8_doubleOf, Cond.code yX8_doubleOf cX8_doubleOf 2 (some .double), Cond.methodLink RX8 94 ⟨"java/lang/Double", "longBitsToDouble", "(J)D"⟩, Cond.native ⟨"java/lang/Double", "longBitsToDouble", "(J)D"⟩, Cond.static ⟨"java/lang/Double", "longBitsToDouble", "(J)D"⟩, Cond.initialized "java/lang/Double", Cond.methodLink RX8 111 yX8_floatOf, Cond.static yX8_floatOf, Cond.code yX8_floatOf cX8_floatOf 2 (some .float), Cond.methodLink RX8 88 ⟨"java/lang/Float", "intBitsToFloat", "(I)F"⟩, Cond.native ⟨"java/lang/Float", "intBitsToFloat", "(I)F"⟩]
def wsL_law_r6 : List Cond := [Cond.static ⟨"java/lang/Float", "intBitsToFloat", "(I)F"⟩, Cond.initialized "java/lang/Float", Cond.methodLink RL 20 yX7_turn, Cond.instanceMethod yX7_turn, Cond.selects RX7 yX7_turn yX7_turn, Cond.code yX7_turn cX7_turn 7 (some .int), Cond.fieldLink RX7 72 "OrreryDials$Dial" "fine" "Z", Cond.methodLink RX7 68 yX7_dialAt, Cond.instanceMethod yX7_dialAt, Cond.selects RX7 yX7_dialAt yX7_dialAt, Cond.code yX7_dialAt cX7_dialAt 2 (some (.object "OrreryDials$Dial")), Cond.methodLink RX7 76 yX1_turnBy, Cond.instanceMethod yX1_turnBy, Cond.selects RX1 yX1_turnBy yX1_turnBy, Cond.code yX1_turnBy cX1_turnBy 5 (some .boolean), Cond.methodLink RX1 23 yX4_sum, Cond.static yX4_sum, Cond.code yX4_sum cX4_sum 19 (some .long), Cond.methodLink RX4 21 yX4_mantissa, Cond.static yX4_mantissa, Cond.code yX4_mantissa cX4_mantissa 7 (some .long), Cond.methodLink RX4 74 yX4_width, Cond.static yX4_width, Cond.code yX4_width cX4_width 1 (some .int)]
def wsL_law_r7 : List Cond := [Cond.methodLink RX4 24 yX4_exponent, Cond.static yX4_exponent, Cond.code yX4_exponent cX4_exponent 4 (some .int), Cond.methodLink RX4 57 Lib.Math.max.name, Cond.static Lib.Math.max.name, Cond.initialized "java/lang/Math", Cond.code Lib.Math.max.name Lib.Math.max.code 2 (some .int), Cond.methodLink RX4 70 yX4_leastExponent, Cond.static yX4_leastExponent, Cond.code yX4_leastExponent cX4_leastExponent 1 (some .int), Cond.methodLink RX4 28 yX4_shiftedOut, Cond.static yX4_shiftedOut, Cond.code yX4_shiftedOut cX4_shiftedOut 3 (some .long), Cond.methodLink RX4 44 yX4_withMore, Cond.static yX4_withMore, Cond.code yX4_withMore cX4_withMore 4 (some .long), Cond.methodLink RX4 32 yX4_nearest, Cond.static yX4_nearest, Cond.code yX4_nearest cX4_nearest 13 (some .long), Cond.methodLink RX4 36 yX4_signed, Cond.static yX4_signed, Cond.code yX4_signed cX4_signed 6 (some .long), Cond.constantLong RX4 19 (-9223372036854775808), Cond.constantLong RX4 84 (-2147483648)]
def wsL_law_r8 : List Cond := [Cond.methodLink RX4 40 yX4_lengthOf, Cond.static yX4_lengthOf, Cond.code yX4_lengthOf cX4_lengthOf 2 (some .int), Cond.methodLink RX4 54 yJ13_numberOfLeadingZeros_95d88, Cond.static yJ13_numberOfLeadingZeros_95d88, Cond.initialized RJ13, Cond.code yJ13_numberOfLeadingZeros_95d88 cJ13_numberOfLeadingZeros_95d88 3 (some .int), Cond.methodLink RJ13 308 yJ6_numberOfLeadingZeros_0f7a4, Cond.static yJ6_numberOfLeadingZeros_0f7a4, Cond.initialized RJ6, Cond.code yJ6_numberOfLeadingZeros_0f7a4 cJ6_numberOfLeadingZeros_0f7a4 2 (some .int), Cond.constant RJ6 264 (65536), Cond.methodLink RX4 77 yX4_rounded, Cond.static yX4_rounded, Cond.code yX4_rounded cX4_rounded 10 (some .long), Cond.methodLink RX1 29 yX4_isFit, Cond.methodLink RX1 33 yX4_quotient, Cond.static yX4_quotient, Cond.code yX4_quotient cX4_quotient 17 (some .long), Cond.methodLink RX1 36 yX4_cutToLong, Cond.static yX4_cutToLong, Cond.code yX4_cutToLong cX4_cutToLong 8 (some .long), Cond.methodLink RX1 40 yX4_leftOver, Cond.static yX4_leftOver]
def wsL_law_r9 : List Cond := [Cond.code yX4_leftOver cX4_leftOver 11 (some .long), Cond.methodLink RX4 61 Lib.Math.min.name, Cond.static Lib.Math.min.name, Cond.code Lib.Math.min.name Lib.Math.min.code 2 (some .int), Cond.methodLink RX7 80 yX7_done, Cond.instanceMethod yX7_done, Cond.selects RX7 yX7_done yX7_done, Cond.code yX7_done cX7_done 2 (some .int), Cond.methodLink RX7 84 yX7_failWith, Cond.instanceMethod yX7_failWith, Cond.selects RX7 yX7_failWith yX7_failWith, Cond.code yX7_failWith cX7_failWith 3 (some .int), Cond.methodLink RL 24 yX8_turn, Cond.instanceMethod yX8_turn, Cond.selects RX8 yX8_turn yX8_turn, Cond.code yX8_turn cX8_turn 4 (some .int), Cond.methodLink RX8 131 yX8_isDial, Cond.instanceMethod yX8_isDial, Cond.selects RX8 yX8_isDial yX8_isDial, Cond.code yX8_isDial cX8_isDial 2 (some .boolean), Cond.methodLink RX8 100 yX8_in, Cond.static yX8_in, Cond.code yX8_in cX8_in 6 (some .boolean), Cond.methodLink RX8 135 yX8_goes]
def wsL_law_r10 : List Cond := [Cond.instanceMethod yX8_goes, Cond.selects RX8 yX8_goes yX8_goes, Cond.code yX8_goes cX8_goes 4 (some .boolean), Cond.methodLink RX8 123 yX8_goesDouble, Cond.instanceMethod yX8_goesDouble, Cond.selects RX8 yX8_goesDouble yX8_goesDouble, Cond.code yX8_goesDouble cX8_goesDouble 6 (some .boolean), Cond.methodLink RX8 119 yX8_isEndless, Cond.static yX8_isEndless, Cond.code yX8_isEndless cX8_isEndless 2 (some .boolean), Cond.constantDouble RX8 82 (9218868437227405311), Cond.constantDouble RX8 84 (18442240474082181119), Cond.methodLink RX8 127 yX8_goesFloat, Cond.instanceMethod yX8_goesFloat, Cond.selects RX8 yX8_goesFloat yX8_goesFloat, Cond.code yX8_goesFloat cX8_goesFloat 4 (some .boolean), Cond.methodLink RX8 115 yX8_isEndlessFloat, Cond.static yX8_isEndlessFloat, Cond.code yX8_isEndlessFloat cX8_isEndlessFloat 1 (some .boolean), Cond.constantFloat RX8 86 (2139095039), Cond.constantFloat RX8 87 (4286578687), Cond.methodLink RX8 139 yX8_done, Cond.instanceMethod yX8_done, Cond.selects RX8 yX8_done yX8_done]
def wsL_law_r11 : List Cond := [Cond.code yX8_done cX8_done 2 (some .int), Cond.fieldLink RX8 66 "OrreryDialsModel" "failed" "I", Cond.methodLink RX8 143 yX8_fails, Cond.instanceMethod yX8_fails, Cond.selects RX8 yX8_fails yX8_fails, Cond.code yX8_fails cX8_fails 2 (some .int), Cond.methodLink RL 25 yX7_spin, Cond.instanceMethod yX7_spin, Cond.selects RX7 yX7_spin yX7_spin, Cond.code yX7_spin cX7_spin 9 (some .int), Cond.methodLink RL 29 yX8_spin, Cond.instanceMethod yX8_spin, Cond.selects RX8 yX8_spin yX8_spin, Cond.code yX8_spin cX8_spin 7 (some .int), Cond.constantLong RX8 146 (40), Cond.methodLink RL 30 yX7_place, Cond.instanceMethod yX7_place, Cond.selects RX7 yX7_place yX7_place, Cond.code yX7_place cX7_place 4 (some .long), Cond.fieldLink RX7 87 "OrreryDials$Dial" "place" "J", Cond.fieldLink RX7 90 "OrreryDials$Dial" "rim" "J", Cond.methodLink RL 34 yX8_place, Cond.instanceMethod yX8_place, Cond.selects RX8 yX8_place yX8_place]
def wsL_law_r12 : List Cond := [Cond.code yX8_place cX8_place 3 (some .long), Cond.methodLink RX8 148 yJxe99ae_doubleToLongBits_ccdee, Cond.static yJxe99ae_doubleToLongBits_ccdee, Cond.initialized RJxe99ae, Cond.code yJxe99ae_doubleToLongBits_ccdee cJxe99ae_doubleToLongBits_ccdee 2 (some .long), Cond.methodLink RJxe99ae 134 ⟨"java/lang/Double", "doubleToRawLongBits", "(D)J"⟩, Cond.native ⟨"java/lang/Double", "doubleToRawLongBits", "(D)J"⟩, Cond.static ⟨"java/lang/Double", "doubleToRawLongBits", "(D)J"⟩, Cond.constantLong RJxe99ae 137 (9221120237041090560), Cond.methodLink RJxe99ae 122 yJxe99ae_isNaN_b9ae7, Cond.static yJxe99ae_isNaN_b9ae7, Cond.code yJxe99ae_isNaN_b9ae7 cJxe99ae_isNaN_b9ae7 2 (some .boolean), Cond.methodLink RX8 152 yJxf58ca_floatToIntBits_5c35a, Cond.static yJxf58ca_floatToIntBits_5c35a, Cond.initialized RJxf58ca, Cond.code yJxf58ca_floatToIntBits_5c35a cJxf58ca_floatToIntBits_5c35a 1 (some .int), Cond.methodLink RJxf58ca 74 ⟨"java/lang/Float", "floatToRawIntBits", "(F)I"⟩, Cond.native ⟨"java/lang/Float", "floatToRawIntBits", "(F)I"⟩, Cond.static ⟨"java/lang/Float", "floatToRawIntBits", "(F)I"⟩, Cond.constant RJxf58ca 77 (2143289344), Cond.methodLink RJxf58ca 59 yJxf58ca_isNaN_12338, Cond.static yJxf58ca_isNaN_12338, Cond.code yJxf58ca_isNaN_12338 cJxf58ca_isNaN_12338 1 (some .boolean), Cond.methodLink RL 35 yX7_laps]
def wsL_law_r13 : List Cond := [Cond.instanceMethod yX7_laps, Cond.selects RX7 yX7_laps yX7_laps, Cond.code yX7_laps cX7_laps 3 (some .long), Cond.fieldLink RX7 93 "OrreryDials$Dial" "laps" "J", Cond.methodLink RL 39 yX8_laps, Cond.instanceMethod yX8_laps, Cond.selects RX8 yX8_laps yX8_laps, Cond.code yX8_laps cX8_laps 2 (some .long), Cond.methodLink RL 40 yX7_fine, Cond.instanceMethod yX7_fine, Cond.selects RX7 yX7_fine yX7_fine, Cond.code yX7_fine cX7_fine 3 (some .int), Cond.methodLink RL 44 yX8_fine, Cond.instanceMethod yX8_fine, Cond.selects RX8 yX8_fine yX8_fine, Cond.code yX8_fine cX8_fine 2 (some .int), Cond.methodLink RL 45 yX7_drive, Cond.instanceMethod yX7_drive, Cond.selects RX7 yX7_drive yX7_drive, Cond.code yX7_drive cX7_drive 4 (some .int), Cond.methodLink RX7 96 yX7_newDrive, Cond.static yX7_newDrive, Cond.code yX7_newDrive cX7_newDrive 4 (some (.object "OrreryDials$Drive")), Cond.classLink RX7 176 RX6]
def wsL_law_r14 : List Cond := [Cond.instantiable RX6 3, Cond.initialized RX6, Cond.classLink RX7 112 RX0, Cond.instantiable RX0 4, Cond.initialized RX0, Cond.classLink RX7 182 RX3, Cond.instantiable RX3 4, Cond.initialized RX3, Cond.methodLink RX7 178 yX6_init, Cond.instanceMethod yX6_init, Cond.code yX6_init cX6_init 4 none, Cond.methodLink RX6 1 yX2_init, Cond.instanceMethod yX2_init, Cond.initialized RX2, Cond.code yX2_init cX2_init 4 none, Cond.methodLink RX2 1 objectInit, Cond.fieldLink RX2 7 "OrreryDials$Drive" "pullCount" "I", Cond.fieldLink RX2 13 "OrreryDials$Drive" "number" "I", Cond.fieldLink RX2 16 "OrreryDials$Drive" "pull" "J", Cond.methodLink RX7 181 yX0_init, Cond.instanceMethod yX0_init, Cond.code yX0_init cX0_init 4 none, Cond.fieldLink RX0 7 "OrreryDials$Crank" "gear" "I", Cond.methodLink RX0 1 yX2_init]
def wsL_law_r15 : List Cond := [Cond.methodLink RX7 184 yX3_init, Cond.instanceMethod yX3_init, Cond.code yX3_init cX3_init 4 none, Cond.methodLink RX3 1 yX0_init, Cond.methodLink RL 48 yX8_drive, Cond.instanceMethod yX8_drive, Cond.selects RX8 yX8_drive yX8_drive, Cond.code yX8_drive cX8_drive 4 (some .int), Cond.constantLong RX8 161 (2), Cond.fieldLink RX8 156 "OrreryDialsModel" "drives" "I", Cond.methodLink RL 49 yX7_fit, Cond.instanceMethod yX7_fit, Cond.selects RX7 yX7_fit yX7_fit, Cond.code yX7_fit cX7_fit 4 (some .int), Cond.methodLink RX7 100 yX7_driveAt, Cond.instanceMethod yX7_driveAt, Cond.selects RX7 yX7_driveAt yX7_driveAt, Cond.code yX7_driveAt cX7_driveAt 2 (some (.object "OrreryDials$Drive")), Cond.methodLink RX7 104 yX7_isSlot, Cond.static yX7_isSlot, Cond.code yX7_isSlot cX7_isSlot 1 (some .boolean), Cond.methodLink RL 53 yX8_fit, Cond.instanceMethod yX8_fit, Cond.selects RX8 yX8_fit yX8_fit]
def wsL_law_r16 : List Cond := [Cond.code yX8_fit cX8_fit 3 (some .int), Cond.methodLink RX8 163 yX8_isSlot, Cond.static yX8_isSlot, Cond.code yX8_isSlot cX8_isSlot 1 (some .boolean), Cond.constantLong RX8 159 (5), Cond.methodLink RX8 166 yX8_isDrive, Cond.instanceMethod yX8_isDrive, Cond.selects RX8 yX8_isDrive yX8_isDrive, Cond.code yX8_isDrive cX8_isDrive 2 (some .boolean), Cond.methodLink RL 54 yX7_pull, Cond.instanceMethod yX7_pull, Cond.selects RX7 yX7_pull yX7_pull, Cond.code yX7_pull cX7_pull 5 (some .int), Cond.methodLink RX7 108 ⟨"OrreryDials$Drive", "pullAt", "(LOrreryDials$Dial;)Z"⟩, Cond.sameMethod "OrreryDials$Drive" "OrreryDials$Drive" "pullAt" "(LOrreryDials$Dial;)Z", Cond.selects RX0 ⟨"OrreryDials$Drive", "pullAt", "(LOrreryDials$Dial;)Z"⟩ yX2_pullAt, Cond.instanceMethod yX2_pullAt, Cond.code yX2_pullAt cX2_pullAt 6 (some .boolean), Cond.fieldLink RX2 20 "OrreryDials$Dial" "fine" "Z", Cond.fieldLink RX2 26 "OrreryDials$Dial" "place" "J", Cond.methodLink RX2 29 yX4_ofReal, Cond.static yX4_ofReal, Cond.code yX4_ofReal cX4_ofReal 4 (some .long), Cond.methodLink RX4 64 yX4_isFit]
def wsL_law_r17 : List Cond := [Cond.methodLink RX2 35 ⟨"OrreryDials$Drive", "forceAt", "(J)J"⟩, Cond.sameMethod "OrreryDials$Drive" "OrreryDials$Drive" "forceAt" "(J)J", Cond.selects RX0 ⟨"OrreryDials$Drive", "forceAt", "(J)J"⟩ yX0_forceAt, Cond.instanceMethod yX0_forceAt, Cond.code yX0_forceAt cX0_forceAt 3 (some .long), Cond.fieldLink RX0 13 "OrreryDials$Crank" "pull" "J", Cond.sameField "OrreryDials$Crank" "OrreryDials$Drive" "pull" "J", Cond.methodLink RX0 17 yX4_timesInt, Cond.static yX4_timesInt, Cond.code yX4_timesInt cX4_timesInt 4 (some .long), Cond.methodLink RX4 48 Lib.MathLoose.abs_long.x, Cond.static Lib.MathLoose.abs_long.x, Cond.code Lib.MathLoose.abs_long.x Lib.MathLoose.abs_long.code 2 (some .long), Cond.selects RX3 ⟨"OrreryDials$Drive", "forceAt", "(J)J"⟩ yX3_forceAt, Cond.instanceMethod yX3_forceAt, Cond.code yX3_forceAt cX3_forceAt 7 (some .long), Cond.fieldLink RX3 7 "OrreryDials$Flywheel" "pull" "J", Cond.sameField "OrreryDials$Flywheel" "OrreryDials$Drive" "pull" "J", Cond.fieldLink RX3 13 "OrreryDials$Flywheel" "gear" "I", Cond.sameField "OrreryDials$Flywheel" "OrreryDials$Crank" "gear" "I", Cond.fieldLink RX3 27 "OrreryDials$Flywheel" "pullCount" "I", Cond.sameField "OrreryDials$Flywheel" "OrreryDials$Drive" "pullCount" "I", Cond.methodLink RX3 17 yX4_timesInt, Cond.methodLink RX3 23 yX4_isFit]
def wsL_law_r18 : List Cond := [Cond.methodLink RX3 30 yX4_sum, Cond.selects RX6 ⟨"OrreryDials$Drive", "forceAt", "(J)J"⟩ yX6_forceAt, Cond.instanceMethod yX6_forceAt, Cond.code yX6_forceAt cX6_forceAt 3 (some .long), Cond.fieldLink RX6 7 "OrreryDials$Spring" "pull" "J", Cond.sameField "OrreryDials$Spring" "OrreryDials$Drive" "pull" "J", Cond.methodLink RX6 13 yX4_negated, Cond.static yX4_negated, Cond.code yX4_negated cX4_negated 2 (some .long), Cond.methodLink RX6 19 yX4_sum, Cond.methodLink RX2 39 yX4_isFit, Cond.methodLink RX2 43 yX1_turnBy, Cond.selects RX3 ⟨"OrreryDials$Drive", "pullAt", "(LOrreryDials$Dial;)Z"⟩ yX2_pullAt, Cond.selects RX6 ⟨"OrreryDials$Drive", "pullAt", "(LOrreryDials$Dial;)Z"⟩ yX2_pullAt, Cond.methodLink RL 57 yX8_pull, Cond.instanceMethod yX8_pull, Cond.selects RX8 yX8_pull yX8_pull, Cond.code yX8_pull cX8_pull 4 (some .int), Cond.methodLink RX8 173 yX8_pullCause, Cond.instanceMethod yX8_pullCause, Cond.selects RX8 yX8_pullCause yX8_pullCause, Cond.code yX8_pullCause cX8_pullCause 3 (some .int), Cond.methodLink RX8 169 yX8_hauls, Cond.instanceMethod yX8_hauls]
def wsL_law_r19 : List Cond := [Cond.selects RX8 yX8_hauls yX8_hauls, Cond.code yX8_hauls cX8_hauls 12 (some .boolean), Cond.methodLink RL 58 yX7_gear, Cond.instanceMethod yX7_gear, Cond.selects RX7 yX7_gear yX7_gear, Cond.code yX7_gear cX7_gear 6 (some .int), Cond.classLink RX7 112 "OrreryDials$Crank", Cond.fieldLink RX7 114 "OrreryDials$Crank" "gear" "I", Cond.methodLink RL 61 yX8_gear, Cond.instanceMethod yX8_gear, Cond.selects RX8 yX8_gear yX8_gear, Cond.code yX8_gear cX8_gear 5 (some .int), Cond.constantLong RX8 177 (-1000), Cond.constantLong RX8 179 (1000), Cond.methodLink RL 62 yX7_lay, Cond.instanceMethod yX7_lay, Cond.selects RX7 yX7_lay yX7_lay, Cond.code yX7_lay cX7_lay 5 (some .int), Cond.methodLink RX7 117 yX7_isShaft, Cond.static yX7_isShaft, Cond.code yX7_isShaft cX7_isShaft 1 (some .boolean), Cond.methodLink RX7 120 yX7_isShaftPlace, Cond.static yX7_isShaftPlace, Cond.code yX7_isShaftPlace cX7_isShaftPlace 1 (some .boolean)]
def wsL_law_r20 : List Cond := [Cond.methodLink RL 66 yX8_lay, Cond.instanceMethod yX8_lay, Cond.selects RX8 yX8_lay yX8_lay, Cond.code yX8_lay cX8_lay 5 (some .int), Cond.constantLong RX8 184 (3), Cond.methodLink RX8 181 yX8_isShaft, Cond.static yX8_isShaft, Cond.code yX8_isShaft cX8_isShaft 1 (some .boolean), Cond.methodLink RL 67 yX7_wind, Cond.instanceMethod yX7_wind, Cond.selects RX7 yX7_wind yX7_wind, Cond.code yX7_wind cX7_wind 6 (some .int), Cond.methodLink RL 70 yX8_wind, Cond.instanceMethod yX8_wind, Cond.selects RX8 yX8_wind yX8_wind, Cond.code yX8_wind cX8_wind 5 (some .int), Cond.methodLink RL 71 yX7_laid, Cond.instanceMethod yX7_laid, Cond.selects RX7 yX7_laid yX7_laid, Cond.code yX7_laid cX7_laid 4 (some .int), Cond.fieldLink RX7 123 "OrreryDials$Drive" "number" "I", Cond.methodLink RL 74 yX8_laid, Cond.instanceMethod yX8_laid, Cond.selects RX8 yX8_laid yX8_laid]
def wsL_law_r21 : List Cond := [Cond.code yX8_laid cX8_laid 3 (some .int), Cond.methodLink RL 75 yX7_pulls, Cond.instanceMethod yX7_pulls, Cond.selects RX7 yX7_pulls yX7_pulls, Cond.code yX7_pulls cX7_pulls 3 (some .int), Cond.fieldLink RX7 126 "OrreryDials$Drive" "pullCount" "I", Cond.methodLink RL 78 yX8_pulls, Cond.instanceMethod yX8_pulls, Cond.selects RX8 yX8_pulls yX8_pulls, Cond.code yX8_pulls cX8_pulls 2 (some .int), Cond.methodLink RL 79 yX7_log, Cond.instanceMethod yX7_log, Cond.selects RX7 yX7_log yX7_log, Cond.code yX7_log cX7_log 5 (some .int), Cond.methodLink RX7 129 yX7_rowAt, Cond.instanceMethod yX7_rowAt, Cond.selects RX7 yX7_rowAt yX7_rowAt, Cond.code yX7_rowAt cX7_rowAt 3 (some (.object "OrreryDials$Row")), Cond.methodLink RX7 133 yX5_renew, Cond.instanceMethod yX5_renew, Cond.selects RX5 yX5_renew yX5_renew, Cond.code yX5_renew cX5_renew 3 none, Cond.methodLink RL 83 yX8_log, Cond.instanceMethod yX8_log]
def wsL_law_r22 : List Cond := [Cond.selects RX8 yX8_log yX8_log, Cond.code yX8_log cX8_log 5 (some .int), Cond.constantLong RX8 191 (-1), Cond.constantLong RX8 193 (16), Cond.methodLink RX8 188 yX8_isLog, Cond.static yX8_isLog, Cond.code yX8_isLog cX8_isLog 1 (some .boolean), Cond.constantLong RX8 186 (7), Cond.methodLink RX8 195 yX8_rowOf, Cond.static yX8_rowOf, Cond.code yX8_rowOf cX8_rowOf 2 (some .int), Cond.methodLink RL 84 yX7_write, Cond.instanceMethod yX7_write, Cond.selects RX7 yX7_write yX7_write, Cond.code yX7_write cX7_write 10 (some .int), Cond.fieldLink RX7 140 "OrreryDials$Row" "places" "[J", Cond.methodLink RX7 137 yX5_failureAt, Cond.instanceMethod yX5_failureAt, Cond.selects RX5 yX5_failureAt yX5_failureAt, Cond.code yX5_failureAt cX5_failureAt 2 (some .int), Cond.methodLink RX5 19 yX5_isMissing, Cond.instanceMethod yX5_isMissing, Cond.selects RX5 yX5_isMissing yX5_isMissing, Cond.code yX5_isMissing cX5_isMissing 1 (some .boolean)]
def wsL_law_r23 : List Cond := [Cond.methodLink RL 88 yX8_write, Cond.instanceMethod yX8_write, Cond.selects RX8 yX8_write yX8_write, Cond.code yX8_write cX8_write 7 (some .int), Cond.methodLink RX8 199 yX8_cause, Cond.instanceMethod yX8_cause, Cond.selects RX8 yX8_cause yX8_cause, Cond.code yX8_cause cX8_cause 3 (some .int), Cond.methodLink RL 89 yX7_read, Cond.instanceMethod yX7_read, Cond.selects RX7 yX7_read yX7_read, Cond.code yX7_read cX7_read 6 (some .int), Cond.methodLink RL 92 yX8_read, Cond.instanceMethod yX8_read, Cond.selects RX8 yX8_read yX8_read, Cond.code yX8_read cX8_read 5 (some .int), Cond.fieldLink RX8 202 "OrreryDialsModel" "seen" "J", Cond.methodLink RL 93 yX7_seen, Cond.instanceMethod yX7_seen, Cond.selects RX7 yX7_seen yX7_seen, Cond.code yX7_seen cX7_seen 1 (some .long), Cond.methodLink RL 97 yX8_seen, Cond.instanceMethod yX8_seen, Cond.selects RX8 yX8_seen yX8_seen]
def wsL_law_r24 : List Cond := [Cond.code yX8_seen cX8_seen 1 (some .long), Cond.methodLink RL 98 yX7_note, Cond.instanceMethod yX7_note, Cond.selects RX7 yX7_note yX7_note, Cond.code yX7_note cX7_note 8 (some .int), Cond.methodLink RX7 144 yX4_ofReal, Cond.methodLink RL 102 yX8_note, Cond.instanceMethod yX8_note, Cond.selects RX8 yX8_note yX8_note, Cond.code yX8_note cX8_note 6 (some .int), Cond.methodLink RL 103 yX7_recall, Cond.instanceMethod yX7_recall, Cond.selects RX7 yX7_recall yX7_recall, Cond.code yX7_recall cX7_recall 10 (some .int), Cond.methodLink RX7 148 yX4_leftOver, Cond.methodLink RL 106 yX8_recall, Cond.instanceMethod yX8_recall, Cond.selects RX8 yX8_recall yX8_recall, Cond.code yX8_recall cX8_recall 9 (some .int), Cond.methodLink RL 107 yX7_sift, Cond.instanceMethod yX7_sift, Cond.selects RX7 yX7_sift yX7_sift, Cond.code yX7_sift cX7_sift 10 (some .int), Cond.fieldLink RX7 156 "OrreryDials$Row" "size" "I"]
def wsL_law_r25 : List Cond := [Cond.methodLink RX7 152 yX5_isMissing, Cond.methodLink RL 111 yX8_sift, Cond.instanceMethod yX8_sift, Cond.selects RX8 yX8_sift yX8_sift, Cond.code yX8_sift cX8_sift 12 (some .int), Cond.methodLink RL 112 yX7_cast, Cond.instanceMethod yX7_cast, Cond.selects RX7 yX7_cast yX7_cast, Cond.code yX7_cast cX7_cast 7 (some .int), Cond.methodLink RX7 159 yX7_isKind, Cond.static yX7_isKind, Cond.code yX7_isKind cX7_isKind 1 (some .boolean), Cond.methodLink RX7 162 yX7_isReal, Cond.static yX7_isReal, Cond.code yX7_isReal cX7_isReal 1 (some .boolean), Cond.methodLink RX7 165 yX4_isNumber, Cond.static yX4_isNumber, Cond.code yX4_isNumber cX4_isNumber 3 (some .boolean), Cond.methodLink RX7 168 yX7_castReal, Cond.static yX7_castReal, Cond.code yX7_castReal cX7_castReal 6 (some .long), Cond.constantLong RX7 190 (-2147483648), Cond.constantLong RX7 192 (2147483647), Cond.methodLink RX7 194 Lib.MathLoose.min_long.x]
def wsL_law_r26 : List Cond := [Cond.static Lib.MathLoose.min_long.x, Cond.code Lib.MathLoose.min_long.x Lib.MathLoose.min_long.code 4 (some .long), Cond.methodLink RX7 200 Lib.MathLoose.max_long.x, Cond.static Lib.MathLoose.max_long.x, Cond.code Lib.MathLoose.max_long.x Lib.MathLoose.max_long.code 4 (some .long), Cond.methodLink RX7 185 yX4_cutToLong, Cond.methodLink RX7 172 yX7_castWhole, Cond.static yX7_castWhole, Cond.code yX7_castWhole cX7_castWhole 3 (some .long), Cond.methodLink RX7 203 yX4_ofLong, Cond.static yX4_ofLong, Cond.code yX4_ofLong cX4_ofLong 3 (some .long), Cond.methodLink RL 116 yX8_cast, Cond.instanceMethod yX8_cast, Cond.selects RX8 yX8_cast yX8_cast, Cond.code yX8_cast cX8_cast 5 (some .int), Cond.methodLink RX8 206 yX8_isNone, Cond.static yX8_isNone, Cond.code yX8_isNone cX8_isNone 3 (some .boolean), Cond.constant RX8 79 (2147483647), Cond.constantLong RX8 80 (9223372036854775807), Cond.methodLink RX8 209 yX8_castWhole, Cond.static yX8_castWhole, Cond.code yX8_castWhole cX8_castWhole 3 (some .long)]
def wsL_law_r27 : List Cond := [Cond.methodLink RX8 213 yX8_castReal, Cond.static yX8_castReal, Cond.code yX8_castReal cX8_castReal 3 (some .long), Cond.methodLink RL 117 yX7_left, Cond.instanceMethod yX7_left, Cond.selects RX7 yX7_left yX7_left, Cond.code yX7_left cX7_left 10 (some .int), Cond.methodLink RL 121 yX8_left, Cond.instanceMethod yX8_left, Cond.selects RX8 yX8_left yX8_left, Cond.code yX8_left cX8_left 7 (some .int), Cond.methodLink RL 122 yX7_failed, Cond.instanceMethod yX7_failed, Cond.selects RX7 yX7_failed yX7_failed, Cond.code yX7_failed cX7_failed 1 (some .int), Cond.methodLink RL 126 yX8_failed, Cond.instanceMethod yX8_failed, Cond.selects RX8 yX8_failed yX8_failed, Cond.code yX8_failed cX8_failed 1 (some .int), Cond.methodLink RL 127 yX7_about, Cond.instanceMethod yX7_about, Cond.selects RX7 yX7_about yX7_about, Cond.code yX7_about cX7_about 3 (some .int), Cond.methodLink RL 130 yX8_about]
def wsL_law_r28 : List Cond := [Cond.instanceMethod yX8_about, Cond.selects RX8 yX8_about yX8_about, Cond.code yX8_about cX8_about 2 (some .int), Cond.constantLong RX8 217 (6)]
def wsL_law : List Cond := (wsL_law_r1 ++ (wsL_law_r2 ++ (wsL_law_r3 ++ (wsL_law_r4 ++ (wsL_law_r5 ++ (wsL_law_r6 ++ (wsL_law_r7 ++ (wsL_law_r8 ++ (wsL_law_r9 ++ (wsL_law_r10 ++ (wsL_law_r11 ++ (wsL_law_r12 ++ (wsL_law_r13 ++ (wsL_law_r14 ++ (wsL_law_r15 ++ (wsL_law_r16 ++ (wsL_law_r17 ++ (wsL_law_r18 ++ (wsL_law_r19 ++ (wsL_law_r20 ++ (wsL_law_r21 ++ (wsL_law_r22 ++ (wsL_law_r23 ++ (wsL_law_r24 ++ (wsL_law_r25 ++ (wsL_law_r26 ++ (wsL_law_r27 ++ wsL_law_r28))))))))))))))))))))))))))) ++ wsX70 ++ wsX80 ++ wsX50 ++ wsX10 ++ wsX60 ++ wsX00 ++ wsX30 ++ ([] : List Cond)
abbrev vwCl : List vw_C := [(RX0, TX0, 4), (RX1, TX1, 4), (RX3, TX3, 4), (RX5, TX5, 2), (RX6, TX6, 3), (RX7, TX7, 10), (RX8, TX8, 20)]
end
section
set_option maxRecDepth 20000 in
theorem ggX0_init_X2_init : GoodIn wsX0_init wsX2_init := goodIn_r _ [5, 6, 7, 8, 9, 10, 11, 12, 13, 14, 15, 16, 17, 18, 19, 20, 21, 22] (by decide +kernel) (by decide +kernel)
set_option maxRecDepth 20000 in
theorem gX0_init_X2_init : GoodIn wsX0_init (wsX2_init) := ggX0_init_X2_init
theorem dX0_init_0 : decode cX0_init 0 = .ok (.aload_n 0, 1) := by decide +kernel
theorem dX0_init_1 : decode cX0_init 1 = .ok (.iload_n 1, 1) := by decide +kernel
theorem dX0_init_2 : decode cX0_init 2 = .ok (.lload_n 2, 1) := by decide +kernel
theorem dX0_init_3 : decode cX0_init 3 = .ok (.invokespecial 1, 3) := by decide +kernel
theorem dX0_init_6 : decode cX0_init 6 = .ok (.aload_n 0, 1) := by decide +kernel
theorem dX0_init_7 : decode cX0_init 7 = .ok (.iconst 1, 1) := by decide +kernel
theorem dX0_init_8 : decode cX0_init 8 = .ok (.putfield 7, 3) := by decide +kernel
theorem dX0_init_11 : decode cX0_init 11 = .ok (.return_, 1) := by decide +kernel
set_option maxRecDepth 20000 in
theorem ggX0_forceAt_X4_timesInt : GoodIn wsX0_forceAt wsX4_timesInt := goodIn_r _ [7, 8, 9, 10, 11, 12, 13, 6, 14, 15, 16, 17, 18, 19, 20, 21, 22, 23, 24, 25, 26, 27, 28, 29, 30, 31, 32, 33, 34, 35, 36, 37, 38, 39, 40, 41, 42, 43, 44, 45, 46, 47, 48, 49, 50, 51, 52, 53, 54, 55, 56, 57, 58, 59] (by decide +kernel) (by decide +kernel)
set_option maxRecDepth 20000 in
theorem gX0_forceAt_X4_timesInt : GoodIn wsX0_forceAt (va_wsS RX0 17 yX4_timesInt wsX4_timesInt) := goodIn_app (goodIn_of _ (by decide +kernel)) ggX0_forceAt_X4_timesInt
theorem dX0_forceAt_0 : decode cX0_forceAt 0 = .ok (.aload_n 0, 1) := by decide +kernel
theorem dX0_forceAt_1 : decode cX0_forceAt 1 = .ok (.getfield 13, 3) := by decide +kernel
theorem dX0_forceAt_4 : decode cX0_forceAt 4 = .ok (.aload_n 0, 1) := by decide +kernel
theorem dX0_forceAt_5 : decode cX0_forceAt 5 = .ok (.getfield 7, 3) := by decide +kernel
theorem dX0_forceAt_8 : decode cX0_forceAt 8 = .ok (.invokestatic 17, 3) := by decide +kernel
theorem dX0_forceAt_11 : decode cX0_forceAt 11 = .ok (.lreturn, 1) := by decide +kernel
theorem dX1_init_0 : decode cX1_init 0 = .ok (.aload_n 0, 1) := by decide +kernel
theorem dX1_init_1 : decode cX1_init 1 = .ok (.invokespecial 1, 3) := by decide +kernel
theorem dX1_init_4 : decode cX1_init 4 = .ok (.aload_n 0, 1) := by decide +kernel
theorem dX1_init_5 : decode cX1_init 5 = .ok (.lconst 0, 1) := by decide +kernel
theorem dX1_init_6 : decode cX1_init 6 = .ok (.putfield 7, 3) := by decide +kernel
theorem dX1_init_9 : decode cX1_init 9 = .ok (.aload_n 0, 1) := by decide +kernel
theorem dX1_init_10 : decode cX1_init 10 = .ok (.lconst 0, 1) := by decide +kernel
theorem dX1_init_11 : decode cX1_init 11 = .ok (.putfield 13, 3) := by decide +kernel
theorem dX1_init_14 : decode cX1_init 14 = .ok (.aload_n 0, 1) := by decide +kernel
theorem dX1_init_15 : decode cX1_init 15 = .ok (.iload_n 1, 1) := by decide +kernel
theorem dX1_init_16 : decode cX1_init 16 = .ok (.putfield 16, 3) := by decide +kernel
theorem dX1_init_19 : decode cX1_init 19 = .ok (.aload_n 0, 1) := by decide +kernel
theorem dX1_init_20 : decode cX1_init 20 = .ok (.lload_n 2, 1) := by decide +kernel
theorem dX1_init_21 : decode cX1_init 21 = .ok (.putfield 20, 3) := by decide +kernel
theorem dX1_init_24 : decode cX1_init 24 = .ok (.return_, 1) := by decide +kernel
set_option maxRecDepth 20000 in
theorem ggX1_turnBy_X4_sum : GoodIn wsX1_turnBy wsX4_sum := goodIn_r _ [8, 9, 10, 7, 11, 12, 13, 14, 15, 16, 17, 18, 19, 20, 21, 22, 23, 24, 25, 26, 27, 28, 29, 30, 31, 32, 33, 34, 35, 36, 37, 38, 39, 40, 41, 42, 43, 44, 45, 46, 47, 48, 49, 50, 51, 52, 53, 54, 55, 56, 57, 58, 59, 60, 61, 62, 63] (by decide +kernel) (by decide +kernel)
set_option maxRecDepth 20000 in
theorem gX1_turnBy_X4_sum : GoodIn wsX1_turnBy (va_wsS RX1 23 yX4_sum wsX4_sum) := goodIn_app (goodIn_of _ (by decide +kernel)) ggX1_turnBy_X4_sum
set_option maxRecDepth 20000 in
theorem ggX1_turnBy_X4_isFit : GoodIn wsX1_turnBy wsX4_isFit := goodIn_r _ [66, 9, 10, 7, 11, 12, 13, 56, 57, 58, 59, 60] (by decide +kernel) (by decide +kernel)
set_option maxRecDepth 20000 in
theorem gX1_turnBy_X4_isFit : GoodIn wsX1_turnBy (va_wsS RX1 29 yX4_isFit wsX4_isFit) := goodIn_app (goodIn_of _ (by decide +kernel)) ggX1_turnBy_X4_isFit
set_option maxRecDepth 20000 in
theorem ggX1_turnBy_X4_quotient : GoodIn wsX1_turnBy wsX4_quotient := goodIn_r _ [69, 14, 15, 7, 16, 17, 18, 19, 9, 10, 11, 12, 13, 39, 40, 41, 42, 43, 44, 45, 46, 47, 48, 49, 50, 51, 52, 53, 54, 55, 20, 21, 22, 23, 24, 25, 26, 27, 28, 29, 33, 34, 35, 36, 37, 38, 56, 57, 58, 59, 60, 61, 62, 63] (by decide +kernel) (by decide +kernel)
set_option maxRecDepth 20000 in
theorem gX1_turnBy_X4_quotient : GoodIn wsX1_turnBy (va_wsS RX1 33 yX4_quotient wsX4_quotient) := goodIn_app (goodIn_of _ (by decide +kernel)) ggX1_turnBy_X4_quotient
set_option maxRecDepth 20000 in
theorem ggX1_turnBy_X4_cutToLong : GoodIn wsX1_turnBy wsX4_cutToLong := goodIn_r _ [72, 42, 12, 14, 15, 7, 16, 17, 18, 19, 9, 10, 11, 13, 20, 21, 22, 23, 24, 25, 26, 27, 28, 29, 44, 45, 46, 47, 48, 49, 50, 51, 52, 53, 54, 55] (by decide +kernel) (by decide +kernel)
set_option maxRecDepth 20000 in
theorem gX1_turnBy_X4_cutToLong : GoodIn wsX1_turnBy (va_wsS RX1 36 yX4_cutToLong wsX4_cutToLong) := goodIn_app (goodIn_of _ (by decide +kernel)) ggX1_turnBy_X4_cutToLong
set_option maxRecDepth 20000 in
theorem ggX1_turnBy_X4_leftOver : GoodIn wsX1_turnBy wsX4_leftOver := goodIn_r _ [75, 23, 24, 25, 26, 76, 77, 78, 14, 15, 7, 16, 17, 18, 19, 9, 10, 11, 12, 13, 47, 48, 49, 50, 51, 52, 53, 54, 55, 20, 21, 22, 27, 28, 29, 36, 37, 38, 39, 40, 41, 42, 43, 44, 45, 46, 56, 57, 58, 59, 60, 61, 62, 63] (by decide +kernel) (by decide +kernel)
set_option maxRecDepth 20000 in
theorem gX1_turnBy_X4_leftOver : GoodIn wsX1_turnBy (va_wsS RX1 40 yX4_leftOver wsX4_leftOver) := goodIn_app (goodIn_of _ (by decide +kernel)) ggX1_turnBy_X4_leftOver
theorem dX1_turnBy_0 : decode cX1_turnBy 0 = .ok (.aload_n 0, 1) := by decide +kernel
theorem dX1_turnBy_1 : decode cX1_turnBy 1 = .ok (.getfield 16, 3) := by decide +kernel
theorem dX1_turnBy_4 : decode cX1_turnBy 4 = .ok (.aload_n 0, 1) := by decide +kernel
theorem dX1_turnBy_5 : decode cX1_turnBy 5 = .ok (.getfield 7, 3) := by decide +kernel
theorem dX1_turnBy_8 : decode cX1_turnBy 8 = .ok (.lload_n 1, 1) := by decide +kernel
theorem dX1_turnBy_9 : decode cX1_turnBy 9 = .ok (.invokestatic 23, 3) := by decide +kernel
theorem dX1_turnBy_12 : decode cX1_turnBy 12 = .ok (.lstore_n 3, 1) := by decide +kernel
theorem dX1_turnBy_13 : decode cX1_turnBy 13 = .ok (.aload_n 0, 1) := by decide +kernel
theorem dX1_turnBy_14 : decode cX1_turnBy 14 = .ok (.getfield 16, 3) := by decide +kernel
theorem dX1_turnBy_17 : decode cX1_turnBy 17 = .ok (.lload_n 3, 1) := by decide +kernel
theorem dX1_turnBy_18 : decode cX1_turnBy 18 = .ok (.invokestatic 29, 3) := by decide +kernel
theorem dX1_turnBy_21 : decode cX1_turnBy 21 = .ok (.ifCond .ne 5, 3) := by decide +kernel
theorem dX1_turnBy_24 : decode cX1_turnBy 24 = .ok (.iconst 0, 1) := by decide +kernel
theorem dX1_turnBy_25 : decode cX1_turnBy 25 = .ok (.ireturn, 1) := by decide +kernel
theorem dX1_turnBy_26 : decode cX1_turnBy 26 = .ok (.aload_n 0, 1) := by decide +kernel
theorem dX1_turnBy_27 : decode cX1_turnBy 27 = .ok (.dup, 1) := by decide +kernel
theorem dX1_turnBy_28 : decode cX1_turnBy 28 = .ok (.getfield 13, 3) := by decide +kernel
theorem dX1_turnBy_31 : decode cX1_turnBy 31 = .ok (.aload_n 0, 1) := by decide +kernel
theorem dX1_turnBy_32 : decode cX1_turnBy 32 = .ok (.getfield 16, 3) := by decide +kernel
theorem dX1_turnBy_35 : decode cX1_turnBy 35 = .ok (.aload_n 0, 1) := by decide +kernel
theorem dX1_turnBy_36 : decode cX1_turnBy 36 = .ok (.getfield 16, 3) := by decide +kernel
theorem dX1_turnBy_39 : decode cX1_turnBy 39 = .ok (.lload_n 3, 1) := by decide +kernel
theorem dX1_turnBy_40 : decode cX1_turnBy 40 = .ok (.aload_n 0, 1) := by decide +kernel
theorem dX1_turnBy_41 : decode cX1_turnBy 41 = .ok (.getfield 20, 3) := by decide +kernel
theorem dX1_turnBy_44 : decode cX1_turnBy 44 = .ok (.invokestatic 33, 3) := by decide +kernel
theorem dX1_turnBy_47 : decode cX1_turnBy 47 = .ok (.invokestatic 36, 3) := by decide +kernel
theorem dX1_turnBy_50 : decode cX1_turnBy 50 = .ok (.ladd, 1) := by decide +kernel
theorem dX1_turnBy_51 : decode cX1_turnBy 51 = .ok (.putfield 13, 3) := by decide +kernel
theorem dX1_turnBy_54 : decode cX1_turnBy 54 = .ok (.aload_n 0, 1) := by decide +kernel
theorem dX1_turnBy_55 : decode cX1_turnBy 55 = .ok (.aload_n 0, 1) := by decide +kernel
theorem dX1_turnBy_56 : decode cX1_turnBy 56 = .ok (.getfield 16, 3) := by decide +kernel
theorem dX1_turnBy_59 : decode cX1_turnBy 59 = .ok (.lload_n 3, 1) := by decide +kernel
theorem dX1_turnBy_60 : decode cX1_turnBy 60 = .ok (.aload_n 0, 1) := by decide +kernel
theorem dX1_turnBy_61 : decode cX1_turnBy 61 = .ok (.getfield 20, 3) := by decide +kernel
theorem dX1_turnBy_64 : decode cX1_turnBy 64 = .ok (.invokestatic 40, 3) := by decide +kernel
theorem dX1_turnBy_67 : decode cX1_turnBy 67 = .ok (.putfield 7, 3) := by decide +kernel
theorem dX1_turnBy_70 : decode cX1_turnBy 70 = .ok (.iconst 1, 1) := by decide +kernel
theorem dX1_turnBy_71 : decode cX1_turnBy 71 = .ok (.ireturn, 1) := by decide +kernel
theorem dX2_init_0 : decode cX2_init 0 = .ok (.aload_n 0, 1) := by decide +kernel
theorem dX2_init_1 : decode cX2_init 1 = .ok (.invokespecial 1, 3) := by decide +kernel
theorem dX2_init_4 : decode cX2_init 4 = .ok (.aload_n 0, 1) := by decide +kernel
theorem dX2_init_5 : decode cX2_init 5 = .ok (.iconst 0, 1) := by decide +kernel
theorem dX2_init_6 : decode cX2_init 6 = .ok (.putfield 7, 3) := by decide +kernel
theorem dX2_init_9 : decode cX2_init 9 = .ok (.aload_n 0, 1) := by decide +kernel
theorem dX2_init_10 : decode cX2_init 10 = .ok (.iload_n 1, 1) := by decide +kernel
theorem dX2_init_11 : decode cX2_init 11 = .ok (.putfield 13, 3) := by decide +kernel
theorem dX2_init_14 : decode cX2_init 14 = .ok (.aload_n 0, 1) := by decide +kernel
theorem dX2_init_15 : decode cX2_init 15 = .ok (.lload_n 2, 1) := by decide +kernel
theorem dX2_init_16 : decode cX2_init 16 = .ok (.putfield 16, 3) := by decide +kernel
theorem dX2_init_19 : decode cX2_init 19 = .ok (.return_, 1) := by decide +kernel
set_option maxRecDepth 20000 in
theorem ggX2_pullAt_X4_ofReal : GoodIn wsX2_pullAt wsX4_ofReal := goodIn_r _ [7, 8, 9, 6, 10, 11, 12, 13, 14, 15, 16, 17, 18, 19, 20, 21, 22, 23, 24, 25, 26, 27, 28, 29, 30, 31, 32, 33, 34, 35, 36, 37, 38, 39, 40, 41, 42, 43, 44, 45, 46, 47, 48, 49, 50, 51, 52, 53, 54, 55, 56, 57, 58, 59] (by decide +kernel) (by decide +kernel)
set_option maxRecDepth 20000 in
theorem gX2_pullAt_X4_ofReal : GoodIn wsX2_pullAt (va_wsS RX2 29 yX4_ofReal wsX4_ofReal) := goodIn_app (goodIn_of _ (by decide +kernel)) ggX2_pullAt_X4_ofReal
set_option maxRecDepth 20000 in
theorem ggX2_pullAt_X0_forceAt : GoodIn wsX2_pullAt wsX0_forceAt := goodIn_r _ [65, 66, 67, 68, 69, 70, 6, 71, 72, 73, 37, 74, 26, 27, 28, 29, 30, 31, 11, 12, 13, 14, 15, 32, 33, 34, 35, 36, 38, 39, 40, 41, 42, 43, 44, 21, 22, 23, 24, 25, 45, 46, 47, 48, 49, 50, 51, 52, 53, 54, 55, 56, 16, 17, 18, 19, 20, 57, 58, 59, 134, 135, 136, 137, 138, 139, 140, 141, 142, 143, 144] (by decide +kernel) (by decide +kernel)
set_option maxRecDepth 20000 in
theorem gX2_pullAt_X0_forceAt_u35X0 : GoodIn wsX2_pullAt (va_wsU RX2 35 RX0 "OrreryDials$Drive" ⟨"OrreryDials$Drive", "forceAt", "(J)J"⟩ yX0_forceAt wsX0_forceAt) := goodIn_app (goodIn_of _ (by decide +kernel)) ggX2_pullAt_X0_forceAt
set_option maxRecDepth 20000 in
theorem ggX2_pullAt_X3_forceAt : GoodIn wsX2_pullAt wsX3_forceAt := goodIn_r _ [78, 79, 80, 81, 82, 83, 84, 85, 70, 6, 71, 72, 73, 37, 74, 26, 27, 28, 29, 30, 31, 11, 12, 13, 14, 15, 32, 33, 34, 35, 36, 38, 39, 40, 41, 42, 43, 44, 21, 22, 23, 24, 25, 45, 46, 47, 48, 49, 50, 51, 52, 53, 54, 55, 56, 16, 17, 18, 19, 20, 57, 58, 59, 86, 9, 10, 87, 88, 89, 90, 91, 92, 93, 94, 95, 134, 135, 136, 137, 138, 139, 140, 141, 142, 143, 144] (by decide +kernel) (by decide +kernel)
set_option maxRecDepth 20000 in
theorem gX2_pullAt_X3_forceAt_u35X3 : GoodIn wsX2_pullAt (va_wsU RX2 35 RX3 "OrreryDials$Drive" ⟨"OrreryDials$Drive", "forceAt", "(J)J"⟩ yX3_forceAt wsX3_forceAt) := goodIn_app (goodIn_of _ (by decide +kernel)) ggX2_pullAt_X3_forceAt
set_option maxRecDepth 20000 in
theorem ggX2_pullAt_X6_forceAt : GoodIn wsX2_pullAt wsX6_forceAt := goodIn_r _ [99, 100, 101, 102, 103, 6, 104, 24, 105, 88, 89, 11, 12, 13, 14, 15, 26, 27, 28, 29, 30, 31, 32, 33, 34, 35, 36, 37, 38, 39, 40, 41, 90, 91, 92, 93, 94, 95, 42, 43, 44, 21, 22, 23, 25, 45, 46, 47, 48, 49, 50, 51, 52, 53, 54, 55, 56, 16, 17, 18, 19, 20, 57, 58, 59, 134, 135, 136, 137, 138, 139, 140, 141, 142, 143, 144] (by decide +kernel) (by decide +kernel)
set_option maxRecDepth 20000 in
theorem gX2_pullAt_X6_forceAt_u35X6 : GoodIn wsX2_pullAt (va_wsU RX2 35 RX6 "OrreryDials$Drive" ⟨"OrreryDials$Drive", "forceAt", "(J)J"⟩ yX6_forceAt wsX6_forceAt) := goodIn_app (goodIn_of _ (by decide +kernel)) ggX2_pullAt_X6_forceAt
set_option maxRecDepth 20000 in
theorem ggX2_pullAt_X4_isFit : GoodIn wsX2_pullAt wsX4_isFit := goodIn_r _ [10, 11, 12, 6, 13, 14, 15, 16, 17, 18, 19, 20] (by decide +kernel) (by decide +kernel)
set_option maxRecDepth 20000 in
theorem gX2_pullAt_X4_isFit : GoodIn wsX2_pullAt (va_wsS RX2 39 yX4_isFit wsX4_isFit) := goodIn_app (goodIn_of _ (by decide +kernel)) ggX2_pullAt_X4_isFit
set_option maxRecDepth 20000 in
theorem ggX2_pullAt_X1_turnBy : GoodIn wsX2_pullAt wsX1_turnBy := goodIn_r _ [111, 112, 113, 114, 115, 116, 88, 6, 89, 11, 12, 13, 14, 15, 26, 27, 28, 29, 30, 31, 32, 33, 34, 35, 36, 37, 38, 39, 40, 41, 90, 91, 92, 93, 94, 95, 42, 43, 44, 21, 22, 23, 24, 25, 45, 46, 47, 48, 49, 50, 51, 52, 53, 54, 55, 56, 16, 17, 18, 19, 20, 57, 58, 59, 117, 9, 10, 118, 119, 120, 121, 122, 123, 124, 125, 126, 127, 128, 129, 130, 131, 132, 133] (by decide +kernel) (by decide +kernel)
set_option maxRecDepth 20000 in
theorem gX2_pullAt_X1_turnBy : GoodIn wsX2_pullAt (wsV RX2 43 RX1 yX1_turnBy wsX1_turnBy) := goodIn_app (goodIn_of _ (by decide +kernel)) ggX2_pullAt_X1_turnBy
theorem dX2_pullAt_0 : decode cX2_pullAt 0 = .ok (.aload_n 0, 1) := by decide +kernel
theorem dX2_pullAt_1 : decode cX2_pullAt 1 = .ok (.aload_n 1, 1) := by decide +kernel
theorem dX2_pullAt_2 : decode cX2_pullAt 2 = .ok (.getfield 20, 3) := by decide +kernel
theorem dX2_pullAt_5 : decode cX2_pullAt 5 = .ok (.iconst 1, 1) := by decide +kernel
theorem dX2_pullAt_6 : decode cX2_pullAt 6 = .ok (.aload_n 1, 1) := by decide +kernel
theorem dX2_pullAt_7 : decode cX2_pullAt 7 = .ok (.getfield 26, 3) := by decide +kernel
theorem dX2_pullAt_10 : decode cX2_pullAt 10 = .ok (.invokestatic 29, 3) := by decide +kernel
theorem dX2_pullAt_13 : decode cX2_pullAt 13 = .ok (.invokevirtual 35, 3) := by decide +kernel
theorem dX2_pullAt_16 : decode cX2_pullAt 16 = .ok (.lstore_n 2, 1) := by decide +kernel
theorem dX2_pullAt_17 : decode cX2_pullAt 17 = .ok (.aload_n 0, 1) := by decide +kernel
theorem dX2_pullAt_18 : decode cX2_pullAt 18 = .ok (.dup, 1) := by decide +kernel
theorem dX2_pullAt_19 : decode cX2_pullAt 19 = .ok (.getfield 7, 3) := by decide +kernel
theorem dX2_pullAt_22 : decode cX2_pullAt 22 = .ok (.iconst 1, 1) := by decide +kernel
theorem dX2_pullAt_23 : decode cX2_pullAt 23 = .ok (.iadd, 1) := by decide +kernel
theorem dX2_pullAt_24 : decode cX2_pullAt 24 = .ok (.putfield 7, 3) := by decide +kernel
theorem dX2_pullAt_27 : decode cX2_pullAt 27 = .ok (.iconst 1, 1) := by decide +kernel
theorem dX2_pullAt_28 : decode cX2_pullAt 28 = .ok (.aload_n 1, 1) := by decide +kernel
theorem dX2_pullAt_29 : decode cX2_pullAt 29 = .ok (.getfield 20, 3) := by decide +kernel
theorem dX2_pullAt_32 : decode cX2_pullAt 32 = .ok (.lload_n 2, 1) := by decide +kernel
theorem dX2_pullAt_33 : decode cX2_pullAt 33 = .ok (.invokestatic 29, 3) := by decide +kernel
theorem dX2_pullAt_36 : decode cX2_pullAt 36 = .ok (.lstore 4, 2) := by decide +kernel
theorem dX2_pullAt_38 : decode cX2_pullAt 38 = .ok (.aload_n 1, 1) := by decide +kernel
theorem dX2_pullAt_39 : decode cX2_pullAt 39 = .ok (.getfield 20, 3) := by decide +kernel
theorem dX2_pullAt_42 : decode cX2_pullAt 42 = .ok (.lload 4, 2) := by decide +kernel
theorem dX2_pullAt_44 : decode cX2_pullAt 44 = .ok (.invokestatic 39, 3) := by decide +kernel
theorem dX2_pullAt_47 : decode cX2_pullAt 47 = .ok (.ifCond .eq 16, 3) := by decide +kernel
theorem dX2_pullAt_50 : decode cX2_pullAt 50 = .ok (.aload_n 1, 1) := by decide +kernel
theorem dX2_pullAt_51 : decode cX2_pullAt 51 = .ok (.lload 4, 2) := by decide +kernel
theorem dX2_pullAt_53 : decode cX2_pullAt 53 = .ok (.invokevirtual 43, 3) := by decide +kernel
theorem dX2_pullAt_56 : decode cX2_pullAt 56 = .ok (.ifCond .eq 7, 3) := by decide +kernel
theorem dX2_pullAt_59 : decode cX2_pullAt 59 = .ok (.iconst 1, 1) := by decide +kernel
theorem dX2_pullAt_60 : decode cX2_pullAt 60 = .ok (.goto 4, 3) := by decide +kernel
theorem dX2_pullAt_63 : decode cX2_pullAt 63 = .ok (.iconst 0, 1) := by decide +kernel
theorem dX2_pullAt_64 : decode cX2_pullAt 64 = .ok (.ireturn, 1) := by decide +kernel
set_option maxRecDepth 20000 in
theorem ggX3_init_X0_init : GoodIn wsX3_init wsX0_init := goodIn_r _ [4, 5, 6, 7, 8, 9, 10, 11, 12, 13, 14, 15, 16, 17, 18, 19, 20, 21, 22, 23, 24, 25, 26] (by decide +kernel) (by decide +kernel)
set_option maxRecDepth 20000 in
theorem gX3_init_X0_init : GoodIn wsX3_init (wsX0_init) := ggX3_init_X0_init
theorem dX3_init_0 : decode cX3_init 0 = .ok (.aload_n 0, 1) := by decide +kernel
theorem dX3_init_1 : decode cX3_init 1 = .ok (.iload_n 1, 1) := by decide +kernel
theorem dX3_init_2 : decode cX3_init 2 = .ok (.lload_n 2, 1) := by decide +kernel
theorem dX3_init_3 : decode cX3_init 3 = .ok (.invokespecial 1, 3) := by decide +kernel
theorem dX3_init_6 : decode cX3_init 6 = .ok (.return_, 1) := by decide +kernel
set_option maxRecDepth 20000 in
theorem ggX3_forceAt_X4_timesInt : GoodIn wsX3_forceAt wsX4_timesInt := goodIn_r _ [10, 11, 12, 13, 14, 15, 16, 9, 17, 18, 19, 20, 21, 22, 23, 24, 25, 26, 27, 28, 29, 30, 31, 32, 33, 34, 35, 36, 37, 38, 39, 40, 41, 42, 43, 44, 45, 46, 47, 48, 49, 50, 51, 52, 53, 54, 55, 56, 57, 58, 59, 60, 61, 62] (by decide +kernel) (by decide +kernel)
set_option maxRecDepth 20000 in
theorem gX3_forceAt_X4_timesInt : GoodIn wsX3_forceAt (va_wsS RX3 17 yX4_timesInt wsX4_timesInt) := goodIn_app (goodIn_of _ (by decide +kernel)) ggX3_forceAt_X4_timesInt
set_option maxRecDepth 20000 in
theorem ggX3_forceAt_X4_isFit : GoodIn wsX3_forceAt wsX4_isFit := goodIn_r _ [65, 21, 22, 9, 23, 24, 25, 55, 56, 57, 58, 59] (by decide +kernel) (by decide +kernel)
set_option maxRecDepth 20000 in
theorem gX3_forceAt_X4_isFit : GoodIn wsX3_forceAt (va_wsS RX3 23 yX4_isFit wsX4_isFit) := goodIn_app (goodIn_of _ (by decide +kernel)) ggX3_forceAt_X4_isFit
set_option maxRecDepth 20000 in
theorem ggX3_forceAt_X4_sum : GoodIn wsX3_forceAt wsX4_sum := goodIn_r _ [68, 21, 22, 9, 23, 24, 25, 15, 16, 17, 18, 19, 20, 26, 27, 28, 29, 30, 13, 31, 32, 33, 34, 69, 70, 71, 72, 73, 74, 35, 36, 37, 38, 39, 40, 41, 42, 43, 44, 45, 46, 47, 48, 49, 50, 51, 52, 53, 54, 55, 56, 57, 58, 59, 60, 61, 62] (by decide +kernel) (by decide +kernel)
set_option maxRecDepth 20000 in
theorem gX3_forceAt_X4_sum : GoodIn wsX3_forceAt (va_wsS RX3 30 yX4_sum wsX4_sum) := goodIn_app (goodIn_of _ (by decide +kernel)) ggX3_forceAt_X4_sum
theorem dX3_forceAt_0 : decode cX3_forceAt 0 = .ok (.aload_n 0, 1) := by decide +kernel
theorem dX3_forceAt_1 : decode cX3_forceAt 1 = .ok (.getfield 7, 3) := by decide +kernel
theorem dX3_forceAt_4 : decode cX3_forceAt 4 = .ok (.aload_n 0, 1) := by decide +kernel
theorem dX3_forceAt_5 : decode cX3_forceAt 5 = .ok (.getfield 13, 3) := by decide +kernel
theorem dX3_forceAt_8 : decode cX3_forceAt 8 = .ok (.invokestatic 17, 3) := by decide +kernel
theorem dX3_forceAt_11 : decode cX3_forceAt 11 = .ok (.lstore_n 3, 1) := by decide +kernel
theorem dX3_forceAt_12 : decode cX3_forceAt 12 = .ok (.iconst 1, 1) := by decide +kernel
theorem dX3_forceAt_13 : decode cX3_forceAt 13 = .ok (.lload_n 3, 1) := by decide +kernel
theorem dX3_forceAt_14 : decode cX3_forceAt 14 = .ok (.invokestatic 23, 3) := by decide +kernel
theorem dX3_forceAt_17 : decode cX3_forceAt 17 = .ok (.ifCond .ne 5, 3) := by decide +kernel
theorem dX3_forceAt_20 : decode cX3_forceAt 20 = .ok (.lload_n 3, 1) := by decide +kernel
theorem dX3_forceAt_21 : decode cX3_forceAt 21 = .ok (.lreturn, 1) := by decide +kernel
theorem dX3_forceAt_22 : decode cX3_forceAt 22 = .ok (.aload_n 0, 1) := by decide +kernel
theorem dX3_forceAt_23 : decode cX3_forceAt 23 = .ok (.getfield 7, 3) := by decide +kernel
theorem dX3_forceAt_26 : decode cX3_forceAt 26 = .ok (.aload_n 0, 1) := by decide +kernel
theorem dX3_forceAt_27 : decode cX3_forceAt 27 = .ok (.getfield 27, 3) := by decide +kernel
theorem dX3_forceAt_30 : decode cX3_forceAt 30 = .ok (.invokestatic 17, 3) := by decide +kernel
theorem dX3_forceAt_33 : decode cX3_forceAt 33 = .ok (.lstore 5, 2) := by decide +kernel
theorem dX3_forceAt_35 : decode cX3_forceAt 35 = .ok (.iconst 1, 1) := by decide +kernel
theorem dX3_forceAt_36 : decode cX3_forceAt 36 = .ok (.lload 5, 2) := by decide +kernel
theorem dX3_forceAt_38 : decode cX3_forceAt 38 = .ok (.invokestatic 23, 3) := by decide +kernel
theorem dX3_forceAt_41 : decode cX3_forceAt 41 = .ok (.ifCond .eq 13, 3) := by decide +kernel
theorem dX3_forceAt_44 : decode cX3_forceAt 44 = .ok (.iconst 1, 1) := by decide +kernel
theorem dX3_forceAt_45 : decode cX3_forceAt 45 = .ok (.lload_n 3, 1) := by decide +kernel
theorem dX3_forceAt_46 : decode cX3_forceAt 46 = .ok (.lload 5, 2) := by decide +kernel
theorem dX3_forceAt_48 : decode cX3_forceAt 48 = .ok (.invokestatic 30, 3) := by decide +kernel
theorem dX3_forceAt_51 : decode cX3_forceAt 51 = .ok (.goto 5, 3) := by decide +kernel
theorem dX3_forceAt_54 : decode cX3_forceAt 54 = .ok (.lload 5, 2) := by decide +kernel
theorem dX3_forceAt_56 : decode cX3_forceAt 56 = .ok (.lreturn, 1) := by decide +kernel
theorem dX4_told_0 : decode cX4_told 0 = .ok (.iload_n 0, 1) := by decide +kernel
theorem dX4_told_1 : decode cX4_told 1 = .ok (.ifCond .eq 7, 3) := by decide +kernel
theorem dX4_told_4 : decode cX4_told 4 = .ok (.lload_n 1, 1) := by decide +kernel
theorem dX4_told_5 : decode cX4_told 5 = .ok (.goto 6, 3) := by decide +kernel
theorem dX4_told_8 : decode cX4_told 8 = .ok (.lload_n 1, 1) := by decide +kernel
theorem dX4_told_9 : decode cX4_told 9 = .ok (.l2i, 1) := by decide +kernel
theorem dX4_told_10 : decode cX4_told 10 = .ok (.i2l, 1) := by decide +kernel
theorem dX4_told_11 : decode cX4_told 11 = .ok (.lreturn, 1) := by decide +kernel
set_option maxRecDepth 20000 in
theorem ggX4_isNumber_X4_sizeOf : GoodIn wsX4_isNumber wsX4_sizeOf := goodIn_r _ [4, 5, 6] (by decide +kernel) (by decide +kernel)
set_option maxRecDepth 20000 in
theorem gX4_isNumber_X4_sizeOf : GoodIn wsX4_isNumber (va_wsS RX4 7 yX4_sizeOf wsX4_sizeOf) := goodIn_app (goodIn_of _ (by decide +kernel)) ggX4_isNumber_X4_sizeOf
set_option maxRecDepth 20000 in
theorem ggX4_isNumber_X4_endless : GoodIn wsX4_isNumber wsX4_endless := goodIn_r _ [9, 10, 11] (by decide +kernel) (by decide +kernel)
set_option maxRecDepth 20000 in
theorem gX4_isNumber_X4_endless : GoodIn wsX4_isNumber (va_wsS RX4 13 yX4_endless wsX4_endless) := goodIn_app (goodIn_of _ (by decide +kernel)) ggX4_isNumber_X4_endless
theorem dX4_isNumber_0 : decode cX4_isNumber 0 = .ok (.iload_n 0, 1) := by decide +kernel
theorem dX4_isNumber_1 : decode cX4_isNumber 1 = .ok (.lload_n 1, 1) := by decide +kernel
theorem dX4_isNumber_2 : decode cX4_isNumber 2 = .ok (.invokestatic 7, 3) := by decide +kernel
theorem dX4_isNumber_5 : decode cX4_isNumber 5 = .ok (.iload_n 0, 1) := by decide +kernel
theorem dX4_isNumber_6 : decode cX4_isNumber 6 = .ok (.invokestatic 13, 3) := by decide +kernel
theorem dX4_isNumber_9 : decode cX4_isNumber 9 = .ok (.lcmp, 1) := by decide +kernel
theorem dX4_isNumber_10 : decode cX4_isNumber 10 = .ok (.ifCond .gt 7, 3) := by decide +kernel
theorem dX4_isNumber_13 : decode cX4_isNumber 13 = .ok (.iconst 1, 1) := by decide +kernel
theorem dX4_isNumber_14 : decode cX4_isNumber 14 = .ok (.goto 4, 3) := by decide +kernel
theorem dX4_isNumber_17 : decode cX4_isNumber 17 = .ok (.iconst 0, 1) := by decide +kernel
theorem dX4_isNumber_18 : decode cX4_isNumber 18 = .ok (.ireturn, 1) := by decide +kernel
set_option maxRecDepth 20000 in
theorem ggX4_isFit_X4_sizeOf : GoodIn wsX4_isFit wsX4_sizeOf := goodIn_r _ [4, 5, 6] (by decide +kernel) (by decide +kernel)
set_option maxRecDepth 20000 in
theorem gX4_isFit_X4_sizeOf : GoodIn wsX4_isFit (va_wsS RX4 7 yX4_sizeOf wsX4_sizeOf) := goodIn_app (goodIn_of _ (by decide +kernel)) ggX4_isFit_X4_sizeOf
set_option maxRecDepth 20000 in
theorem ggX4_isFit_X4_endless : GoodIn wsX4_isFit wsX4_endless := goodIn_r _ [9, 10, 11] (by decide +kernel) (by decide +kernel)
set_option maxRecDepth 20000 in
theorem gX4_isFit_X4_endless : GoodIn wsX4_isFit (va_wsS RX4 13 yX4_endless wsX4_endless) := goodIn_app (goodIn_of _ (by decide +kernel)) ggX4_isFit_X4_endless
theorem dX4_isFit_0 : decode cX4_isFit 0 = .ok (.iload_n 0, 1) := by decide +kernel
theorem dX4_isFit_1 : decode cX4_isFit 1 = .ok (.lload_n 1, 1) := by decide +kernel
theorem dX4_isFit_2 : decode cX4_isFit 2 = .ok (.invokestatic 7, 3) := by decide +kernel
theorem dX4_isFit_5 : decode cX4_isFit 5 = .ok (.iload_n 0, 1) := by decide +kernel
theorem dX4_isFit_6 : decode cX4_isFit 6 = .ok (.invokestatic 13, 3) := by decide +kernel
theorem dX4_isFit_9 : decode cX4_isFit 9 = .ok (.lcmp, 1) := by decide +kernel
theorem dX4_isFit_10 : decode cX4_isFit 10 = .ok (.ifCond .ge 7, 3) := by decide +kernel
theorem dX4_isFit_13 : decode cX4_isFit 13 = .ok (.iconst 1, 1) := by decide +kernel
theorem dX4_isFit_14 : decode cX4_isFit 14 = .ok (.goto 4, 3) := by decide +kernel
theorem dX4_isFit_17 : decode cX4_isFit 17 = .ok (.iconst 0, 1) := by decide +kernel
theorem dX4_isFit_18 : decode cX4_isFit 18 = .ok (.ireturn, 1) := by decide +kernel
set_option maxRecDepth 20000 in
theorem ggX4_isZero_X4_sizeOf : GoodIn wsX4_isZero wsX4_sizeOf := goodIn_r _ [4, 5, 6] (by decide +kernel) (by decide +kernel)
set_option maxRecDepth 20000 in
theorem gX4_isZero_X4_sizeOf : GoodIn wsX4_isZero (va_wsS RX4 7 yX4_sizeOf wsX4_sizeOf) := goodIn_app (goodIn_of _ (by decide +kernel)) ggX4_isZero_X4_sizeOf
theorem dX4_isZero_0 : decode cX4_isZero 0 = .ok (.iload_n 0, 1) := by decide +kernel
theorem dX4_isZero_1 : decode cX4_isZero 1 = .ok (.lload_n 1, 1) := by decide +kernel
theorem dX4_isZero_2 : decode cX4_isZero 2 = .ok (.invokestatic 7, 3) := by decide +kernel
theorem dX4_isZero_5 : decode cX4_isZero 5 = .ok (.lconst 0, 1) := by decide +kernel
theorem dX4_isZero_6 : decode cX4_isZero 6 = .ok (.lcmp, 1) := by decide +kernel
theorem dX4_isZero_7 : decode cX4_isZero 7 = .ok (.ifCond .ne 7, 3) := by decide +kernel
theorem dX4_isZero_10 : decode cX4_isZero 10 = .ok (.iconst 1, 1) := by decide +kernel
theorem dX4_isZero_11 : decode cX4_isZero 11 = .ok (.goto 4, 3) := by decide +kernel
theorem dX4_isZero_14 : decode cX4_isZero 14 = .ok (.iconst 0, 1) := by decide +kernel
theorem dX4_isZero_15 : decode cX4_isZero 15 = .ok (.ireturn, 1) := by decide +kernel
theorem dX4_negated_0 : decode cX4_negated 0 = .ok (.lload_n 0, 1) := by decide +kernel
theorem dX4_negated_1 : decode cX4_negated 1 = .ok (.ldc2_w 19, 3) := by decide +kernel
theorem dX4_negated_4 : decode cX4_negated 4 = .ok (.lxor, 1) := by decide +kernel
theorem dX4_negated_5 : decode cX4_negated 5 = .ok (.lreturn, 1) := by decide +kernel
set_option maxRecDepth 20000 in
theorem ggX4_sum_X4_sizeOf : GoodIn wsX4_sum wsX4_sizeOf := goodIn_r _ [4, 5, 6] (by decide +kernel) (by decide +kernel)
set_option maxRecDepth 20000 in
theorem gX4_sum_X4_sizeOf : GoodIn wsX4_sum (va_wsS RX4 7 yX4_sizeOf wsX4_sizeOf) := goodIn_app (goodIn_of _ (by decide +kernel)) ggX4_sum_X4_sizeOf
set_option maxRecDepth 20000 in
theorem ggX4_sum_X4_mantissa : GoodIn wsX4_sum wsX4_mantissa := goodIn_r _ [9, 10, 11, 3, 12, 1, 2, 4, 5, 6] (by decide +kernel) (by decide +kernel)
set_option maxRecDepth 20000 in
theorem gX4_sum_X4_mantissa : GoodIn wsX4_sum (va_wsS RX4 21 yX4_mantissa wsX4_mantissa) := goodIn_app (goodIn_of _ (by decide +kernel)) ggX4_sum_X4_mantissa
set_option maxRecDepth 20000 in
theorem ggX4_sum_X4_exponent : GoodIn wsX4_sum wsX4_exponent := goodIn_r _ [15, 16, 17, 18, 19, 1, 2, 3, 4, 5, 6, 10, 11, 12, 20, 21, 22] (by decide +kernel) (by decide +kernel)
set_option maxRecDepth 20000 in
theorem gX4_sum_X4_exponent : GoodIn wsX4_sum (va_wsS RX4 24 yX4_exponent wsX4_exponent) := goodIn_app (goodIn_of _ (by decide +kernel)) ggX4_sum_X4_exponent
set_option maxRecDepth 20000 in
theorem ggX4_sum_X4_shiftedOut : GoodIn wsX4_sum wsX4_shiftedOut := goodIn_r _ [25, 26, 27, 3, 28] (by decide +kernel) (by decide +kernel)
set_option maxRecDepth 20000 in
theorem gX4_sum_X4_shiftedOut : GoodIn wsX4_sum (va_wsS RX4 28 yX4_shiftedOut wsX4_shiftedOut) := goodIn_app (goodIn_of _ (by decide +kernel)) ggX4_sum_X4_shiftedOut
set_option maxRecDepth 20000 in
theorem ggX4_sum_X4_nearest : GoodIn wsX4_sum wsX4_nearest := goodIn_r _ [31, 16, 17, 18, 19, 32, 33, 3, 34, 35, 36, 20, 21, 22, 37, 38, 39, 40, 41, 42, 43, 44, 45, 46, 47, 48, 10, 11, 12, 49, 50, 51, 52, 53, 54, 55, 56] (by decide +kernel) (by decide +kernel)
set_option maxRecDepth 20000 in
theorem gX4_sum_X4_nearest : GoodIn wsX4_sum (va_wsS RX4 32 yX4_nearest wsX4_nearest) := goodIn_app (goodIn_of _ (by decide +kernel)) ggX4_sum_X4_nearest
theorem dX4_sum_0 : decode cX4_sum 0 = .ok (.iload_n 0, 1) := by decide +kernel
theorem dX4_sum_1 : decode cX4_sum 1 = .ok (.lload_n 1, 1) := by decide +kernel
theorem dX4_sum_2 : decode cX4_sum 2 = .ok (.invokestatic 7, 3) := by decide +kernel
theorem dX4_sum_5 : decode cX4_sum 5 = .ok (.iload_n 0, 1) := by decide +kernel
theorem dX4_sum_6 : decode cX4_sum 6 = .ok (.lload_n 3, 1) := by decide +kernel
theorem dX4_sum_7 : decode cX4_sum 7 = .ok (.invokestatic 7, 3) := by decide +kernel
theorem dX4_sum_10 : decode cX4_sum 10 = .ok (.lcmp, 1) := by decide +kernel
theorem dX4_sum_11 : decode cX4_sum 11 = .ok (.ifCond .lt 7, 3) := by decide +kernel
theorem dX4_sum_14 : decode cX4_sum 14 = .ok (.iconst 1, 1) := by decide +kernel
theorem dX4_sum_15 : decode cX4_sum 15 = .ok (.goto 4, 3) := by decide +kernel
theorem dX4_sum_18 : decode cX4_sum 18 = .ok (.iconst 0, 1) := by decide +kernel
theorem dX4_sum_19 : decode cX4_sum 19 = .ok (.istore 5, 2) := by decide +kernel
theorem dX4_sum_21 : decode cX4_sum 21 = .ok (.iload 5, 2) := by decide +kernel
theorem dX4_sum_23 : decode cX4_sum 23 = .ok (.ifCond .eq 7, 3) := by decide +kernel
theorem dX4_sum_26 : decode cX4_sum 26 = .ok (.lload_n 1, 1) := by decide +kernel
theorem dX4_sum_27 : decode cX4_sum 27 = .ok (.goto 4, 3) := by decide +kernel
theorem dX4_sum_30 : decode cX4_sum 30 = .ok (.lload_n 3, 1) := by decide +kernel
theorem dX4_sum_31 : decode cX4_sum 31 = .ok (.lstore 6, 2) := by decide +kernel
theorem dX4_sum_33 : decode cX4_sum 33 = .ok (.iload 5, 2) := by decide +kernel
theorem dX4_sum_35 : decode cX4_sum 35 = .ok (.ifCond .eq 7, 3) := by decide +kernel
theorem dX4_sum_38 : decode cX4_sum 38 = .ok (.lload_n 3, 1) := by decide +kernel
theorem dX4_sum_39 : decode cX4_sum 39 = .ok (.goto 4, 3) := by decide +kernel
theorem dX4_sum_42 : decode cX4_sum 42 = .ok (.lload_n 1, 1) := by decide +kernel
theorem dX4_sum_43 : decode cX4_sum 43 = .ok (.lstore 8, 2) := by decide +kernel
theorem dX4_sum_45 : decode cX4_sum 45 = .ok (.iload_n 0, 1) := by decide +kernel
theorem dX4_sum_46 : decode cX4_sum 46 = .ok (.lload 6, 2) := by decide +kernel
theorem dX4_sum_48 : decode cX4_sum 48 = .ok (.invokestatic 21, 3) := by decide +kernel
theorem dX4_sum_51 : decode cX4_sum 51 = .ok (.iconst 3, 1) := by decide +kernel
theorem dX4_sum_52 : decode cX4_sum 52 = .ok (.lshl, 1) := by decide +kernel
theorem dX4_sum_53 : decode cX4_sum 53 = .ok (.lstore 10, 2) := by decide +kernel
theorem dX4_sum_55 : decode cX4_sum 55 = .ok (.iload_n 0, 1) := by decide +kernel
theorem dX4_sum_56 : decode cX4_sum 56 = .ok (.lload 6, 2) := by decide +kernel
theorem dX4_sum_58 : decode cX4_sum 58 = .ok (.invokestatic 24, 3) := by decide +kernel
theorem dX4_sum_61 : decode cX4_sum 61 = .ok (.iload_n 0, 1) := by decide +kernel
theorem dX4_sum_62 : decode cX4_sum 62 = .ok (.lload 8, 2) := by decide +kernel
theorem dX4_sum_64 : decode cX4_sum 64 = .ok (.invokestatic 24, 3) := by decide +kernel
theorem dX4_sum_67 : decode cX4_sum 67 = .ok (.isub, 1) := by decide +kernel
theorem dX4_sum_68 : decode cX4_sum 68 = .ok (.istore 12, 2) := by decide +kernel
theorem dX4_sum_70 : decode cX4_sum 70 = .ok (.iload_n 0, 1) := by decide +kernel
theorem dX4_sum_71 : decode cX4_sum 71 = .ok (.lload 8, 2) := by decide +kernel
theorem dX4_sum_73 : decode cX4_sum 73 = .ok (.invokestatic 21, 3) := by decide +kernel
theorem dX4_sum_76 : decode cX4_sum 76 = .ok (.iconst 3, 1) := by decide +kernel
theorem dX4_sum_77 : decode cX4_sum 77 = .ok (.lshl, 1) := by decide +kernel
theorem dX4_sum_78 : decode cX4_sum 78 = .ok (.iload 12, 2) := by decide +kernel
theorem dX4_sum_80 : decode cX4_sum 80 = .ok (.invokestatic 28, 3) := by decide +kernel
theorem dX4_sum_83 : decode cX4_sum 83 = .ok (.lstore 13, 2) := by decide +kernel
theorem dX4_sum_85 : decode cX4_sum 85 = .ok (.lload 6, 2) := by decide +kernel
theorem dX4_sum_87 : decode cX4_sum 87 = .ok (.lconst 0, 1) := by decide +kernel
theorem dX4_sum_88 : decode cX4_sum 88 = .ok (.lcmp, 1) := by decide +kernel
theorem dX4_sum_89 : decode cX4_sum 89 = .ok (.ifCond .ge 7, 3) := by decide +kernel
theorem dX4_sum_92 : decode cX4_sum 92 = .ok (.iconst 1, 1) := by decide +kernel
theorem dX4_sum_93 : decode cX4_sum 93 = .ok (.goto 4, 3) := by decide +kernel
theorem dX4_sum_96 : decode cX4_sum 96 = .ok (.iconst 0, 1) := by decide +kernel
theorem dX4_sum_97 : decode cX4_sum 97 = .ok (.lload 8, 2) := by decide +kernel
theorem dX4_sum_99 : decode cX4_sum 99 = .ok (.lconst 0, 1) := by decide +kernel
theorem dX4_sum_100 : decode cX4_sum 100 = .ok (.lcmp, 1) := by decide +kernel
theorem dX4_sum_101 : decode cX4_sum 101 = .ok (.ifCond .ge 7, 3) := by decide +kernel
theorem dX4_sum_104 : decode cX4_sum 104 = .ok (.iconst 1, 1) := by decide +kernel
theorem dX4_sum_105 : decode cX4_sum 105 = .ok (.goto 4, 3) := by decide +kernel
theorem dX4_sum_108 : decode cX4_sum 108 = .ok (.iconst 0, 1) := by decide +kernel
theorem dX4_sum_109 : decode cX4_sum 109 = .ok (.if_icmp .ne 7, 3) := by decide +kernel
theorem dX4_sum_112 : decode cX4_sum 112 = .ok (.iconst 1, 1) := by decide +kernel
theorem dX4_sum_113 : decode cX4_sum 113 = .ok (.goto 4, 3) := by decide +kernel
theorem dX4_sum_116 : decode cX4_sum 116 = .ok (.iconst 0, 1) := by decide +kernel
theorem dX4_sum_117 : decode cX4_sum 117 = .ok (.istore 15, 2) := by decide +kernel
theorem dX4_sum_119 : decode cX4_sum 119 = .ok (.iload 15, 2) := by decide +kernel
theorem dX4_sum_121 : decode cX4_sum 121 = .ok (.ifCond .eq 11, 3) := by decide +kernel
theorem dX4_sum_124 : decode cX4_sum 124 = .ok (.lload 10, 2) := by decide +kernel
theorem dX4_sum_126 : decode cX4_sum 126 = .ok (.lload 13, 2) := by decide +kernel
theorem dX4_sum_128 : decode cX4_sum 128 = .ok (.ladd, 1) := by decide +kernel
theorem dX4_sum_129 : decode cX4_sum 129 = .ok (.goto 8, 3) := by decide +kernel
theorem dX4_sum_132 : decode cX4_sum 132 = .ok (.lload 10, 2) := by decide +kernel
theorem dX4_sum_134 : decode cX4_sum 134 = .ok (.lload 13, 2) := by decide +kernel
theorem dX4_sum_136 : decode cX4_sum 136 = .ok (.lsub, 1) := by decide +kernel
theorem dX4_sum_137 : decode cX4_sum 137 = .ok (.lstore 16, 2) := by decide +kernel
theorem dX4_sum_139 : decode cX4_sum 139 = .ok (.lload 6, 2) := by decide +kernel
theorem dX4_sum_141 : decode cX4_sum 141 = .ok (.lconst 0, 1) := by decide +kernel
theorem dX4_sum_142 : decode cX4_sum 142 = .ok (.lcmp, 1) := by decide +kernel
theorem dX4_sum_143 : decode cX4_sum 143 = .ok (.ifCond .ge 21, 3) := by decide +kernel
theorem dX4_sum_146 : decode cX4_sum 146 = .ok (.lload 16, 2) := by decide +kernel
theorem dX4_sum_148 : decode cX4_sum 148 = .ok (.lconst 0, 1) := by decide +kernel
theorem dX4_sum_149 : decode cX4_sum 149 = .ok (.lcmp, 1) := by decide +kernel
theorem dX4_sum_150 : decode cX4_sum 150 = .ok (.ifCond .ne 10, 3) := by decide +kernel
theorem dX4_sum_153 : decode cX4_sum 153 = .ok (.lload 8, 2) := by decide +kernel
theorem dX4_sum_155 : decode cX4_sum 155 = .ok (.lconst 0, 1) := by decide +kernel
theorem dX4_sum_156 : decode cX4_sum 156 = .ok (.lcmp, 1) := by decide +kernel
theorem dX4_sum_157 : decode cX4_sum 157 = .ok (.ifCond .ge 7, 3) := by decide +kernel
theorem dX4_sum_160 : decode cX4_sum 160 = .ok (.iconst 1, 1) := by decide +kernel
theorem dX4_sum_161 : decode cX4_sum 161 = .ok (.goto 4, 3) := by decide +kernel
theorem dX4_sum_164 : decode cX4_sum 164 = .ok (.iconst 0, 1) := by decide +kernel
theorem dX4_sum_165 : decode cX4_sum 165 = .ok (.istore 18, 2) := by decide +kernel
theorem dX4_sum_167 : decode cX4_sum 167 = .ok (.iload_n 0, 1) := by decide +kernel
theorem dX4_sum_168 : decode cX4_sum 168 = .ok (.iload 18, 2) := by decide +kernel
theorem dX4_sum_170 : decode cX4_sum 170 = .ok (.lload 16, 2) := by decide +kernel
theorem dX4_sum_172 : decode cX4_sum 172 = .ok (.iload_n 0, 1) := by decide +kernel
theorem dX4_sum_173 : decode cX4_sum 173 = .ok (.lload 6, 2) := by decide +kernel
theorem dX4_sum_175 : decode cX4_sum 175 = .ok (.invokestatic 24, 3) := by decide +kernel
theorem dX4_sum_178 : decode cX4_sum 178 = .ok (.iconst 3, 1) := by decide +kernel
theorem dX4_sum_179 : decode cX4_sum 179 = .ok (.isub, 1) := by decide +kernel
theorem dX4_sum_180 : decode cX4_sum 180 = .ok (.invokestatic 32, 3) := by decide +kernel
theorem dX4_sum_183 : decode cX4_sum 183 = .ok (.lreturn, 1) := by decide +kernel
set_option maxRecDepth 20000 in
theorem ggX4_quotient_X4_mantissa : GoodIn wsX4_quotient wsX4_mantissa := goodIn_r _ [4, 5, 6, 3, 7, 8, 9, 10, 11, 12] (by decide +kernel) (by decide +kernel)
set_option maxRecDepth 20000 in
theorem gX4_quotient_X4_mantissa : GoodIn wsX4_quotient (va_wsS RX4 21 yX4_mantissa wsX4_mantissa) := goodIn_app (goodIn_of _ (by decide +kernel)) ggX4_quotient_X4_mantissa
set_option maxRecDepth 20000 in
theorem ggX4_quotient_X4_signed : GoodIn wsX4_quotient wsX4_signed := goodIn_r _ [15, 16, 17] (by decide +kernel) (by decide +kernel)
set_option maxRecDepth 20000 in
theorem gX4_quotient_X4_signed : GoodIn wsX4_quotient (va_wsS RX4 36 yX4_signed wsX4_signed) := goodIn_app (goodIn_of _ (by decide +kernel)) ggX4_quotient_X4_signed
set_option maxRecDepth 20000 in
theorem ggX4_quotient_X4_lengthOf : GoodIn wsX4_quotient wsX4_lengthOf := goodIn_r _ [20, 21, 22, 23, 24, 25, 26, 27, 28, 29] (by decide +kernel) (by decide +kernel)
set_option maxRecDepth 20000 in
theorem gX4_quotient_X4_lengthOf : GoodIn wsX4_quotient (va_wsS RX4 40 yX4_lengthOf wsX4_lengthOf) := goodIn_app (goodIn_of _ (by decide +kernel)) ggX4_quotient_X4_lengthOf
set_option maxRecDepth 20000 in
theorem ggX4_quotient_X4_exponent : GoodIn wsX4_quotient wsX4_exponent := goodIn_r _ [32, 33, 34, 35, 36, 8, 9, 3, 10, 11, 12, 5, 6, 7, 37, 38, 39] (by decide +kernel) (by decide +kernel)
set_option maxRecDepth 20000 in
theorem gX4_quotient_X4_exponent : GoodIn wsX4_quotient (va_wsS RX4 24 yX4_exponent wsX4_exponent) := goodIn_app (goodIn_of _ (by decide +kernel)) ggX4_quotient_X4_exponent
set_option maxRecDepth 20000 in
theorem ggX4_quotient_X4_withMore : GoodIn wsX4_quotient wsX4_withMore := goodIn_r _ [42] (by decide +kernel) (by decide +kernel)
set_option maxRecDepth 20000 in
theorem gX4_quotient_X4_withMore : GoodIn wsX4_quotient (va_wsS RX4 44 yX4_withMore wsX4_withMore) := goodIn_app (goodIn_of _ (by decide +kernel)) ggX4_quotient_X4_withMore
set_option maxRecDepth 20000 in
theorem ggX4_quotient_X4_nearest : GoodIn wsX4_quotient wsX4_nearest := goodIn_r _ [45, 33, 34, 35, 36, 13, 14, 3, 15, 16, 17, 37, 38, 39, 18, 19, 20, 21, 22, 23, 24, 25, 26, 27, 28, 29, 5, 6, 7, 46, 47, 48, 49, 50, 51, 52, 53] (by decide +kernel) (by decide +kernel)
set_option maxRecDepth 20000 in
theorem gX4_quotient_X4_nearest : GoodIn wsX4_quotient (va_wsS RX4 32 yX4_nearest wsX4_nearest) := goodIn_app (goodIn_of _ (by decide +kernel)) ggX4_quotient_X4_nearest
theorem dX4_quotient_0 : decode cX4_quotient 0 = .ok (.lload_n 1, 1) := by decide +kernel
theorem dX4_quotient_1 : decode cX4_quotient 1 = .ok (.lconst 0, 1) := by decide +kernel
theorem dX4_quotient_2 : decode cX4_quotient 2 = .ok (.lcmp, 1) := by decide +kernel
theorem dX4_quotient_3 : decode cX4_quotient 3 = .ok (.ifCond .ge 7, 3) := by decide +kernel
theorem dX4_quotient_6 : decode cX4_quotient 6 = .ok (.iconst 1, 1) := by decide +kernel
theorem dX4_quotient_7 : decode cX4_quotient 7 = .ok (.goto 4, 3) := by decide +kernel
theorem dX4_quotient_10 : decode cX4_quotient 10 = .ok (.iconst 0, 1) := by decide +kernel
theorem dX4_quotient_11 : decode cX4_quotient 11 = .ok (.lload_n 3, 1) := by decide +kernel
theorem dX4_quotient_12 : decode cX4_quotient 12 = .ok (.lconst 0, 1) := by decide +kernel
theorem dX4_quotient_13 : decode cX4_quotient 13 = .ok (.lcmp, 1) := by decide +kernel
theorem dX4_quotient_14 : decode cX4_quotient 14 = .ok (.ifCond .ge 7, 3) := by decide +kernel
theorem dX4_quotient_17 : decode cX4_quotient 17 = .ok (.iconst 1, 1) := by decide +kernel
theorem dX4_quotient_18 : decode cX4_quotient 18 = .ok (.goto 4, 3) := by decide +kernel
theorem dX4_quotient_21 : decode cX4_quotient 21 = .ok (.iconst 0, 1) := by decide +kernel
theorem dX4_quotient_22 : decode cX4_quotient 22 = .ok (.if_icmp .eq 7, 3) := by decide +kernel
theorem dX4_quotient_25 : decode cX4_quotient 25 = .ok (.iconst 1, 1) := by decide +kernel
theorem dX4_quotient_26 : decode cX4_quotient 26 = .ok (.goto 4, 3) := by decide +kernel
theorem dX4_quotient_29 : decode cX4_quotient 29 = .ok (.iconst 0, 1) := by decide +kernel
theorem dX4_quotient_30 : decode cX4_quotient 30 = .ok (.istore 5, 2) := by decide +kernel
theorem dX4_quotient_32 : decode cX4_quotient 32 = .ok (.iload_n 0, 1) := by decide +kernel
theorem dX4_quotient_33 : decode cX4_quotient 33 = .ok (.lload_n 1, 1) := by decide +kernel
theorem dX4_quotient_34 : decode cX4_quotient 34 = .ok (.invokestatic 21, 3) := by decide +kernel
theorem dX4_quotient_37 : decode cX4_quotient 37 = .ok (.lstore 6, 2) := by decide +kernel
theorem dX4_quotient_39 : decode cX4_quotient 39 = .ok (.iload_n 0, 1) := by decide +kernel
theorem dX4_quotient_40 : decode cX4_quotient 40 = .ok (.lload_n 3, 1) := by decide +kernel
theorem dX4_quotient_41 : decode cX4_quotient 41 = .ok (.invokestatic 21, 3) := by decide +kernel
theorem dX4_quotient_44 : decode cX4_quotient 44 = .ok (.lstore 8, 2) := by decide +kernel
theorem dX4_quotient_46 : decode cX4_quotient 46 = .ok (.lload 6, 2) := by decide +kernel
theorem dX4_quotient_48 : decode cX4_quotient 48 = .ok (.lconst 0, 1) := by decide +kernel
theorem dX4_quotient_49 : decode cX4_quotient 49 = .ok (.lcmp, 1) := by decide +kernel
theorem dX4_quotient_50 : decode cX4_quotient 50 = .ok (.ifCond .eq 10, 3) := by decide +kernel
theorem dX4_quotient_53 : decode cX4_quotient 53 = .ok (.lload 8, 2) := by decide +kernel
theorem dX4_quotient_55 : decode cX4_quotient 55 = .ok (.lconst 0, 1) := by decide +kernel
theorem dX4_quotient_56 : decode cX4_quotient 56 = .ok (.lcmp, 1) := by decide +kernel
theorem dX4_quotient_57 : decode cX4_quotient 57 = .ok (.ifCond .ne 11, 3) := by decide +kernel
theorem dX4_quotient_60 : decode cX4_quotient 60 = .ok (.iload_n 0, 1) := by decide +kernel
theorem dX4_quotient_61 : decode cX4_quotient 61 = .ok (.iload 5, 2) := by decide +kernel
theorem dX4_quotient_63 : decode cX4_quotient 63 = .ok (.lconst 0, 1) := by decide +kernel
theorem dX4_quotient_64 : decode cX4_quotient 64 = .ok (.invokestatic 36, 3) := by decide +kernel
theorem dX4_quotient_67 : decode cX4_quotient 67 = .ok (.lreturn, 1) := by decide +kernel
theorem dX4_quotient_68 : decode cX4_quotient 68 = .ok (.bipush 53, 2) := by decide +kernel
theorem dX4_quotient_70 : decode cX4_quotient 70 = .ok (.lload 6, 2) := by decide +kernel
theorem dX4_quotient_72 : decode cX4_quotient 72 = .ok (.invokestatic 40, 3) := by decide +kernel
theorem dX4_quotient_75 : decode cX4_quotient 75 = .ok (.isub, 1) := by decide +kernel
theorem dX4_quotient_76 : decode cX4_quotient 76 = .ok (.istore 10, 2) := by decide +kernel
theorem dX4_quotient_78 : decode cX4_quotient 78 = .ok (.bipush 53, 2) := by decide +kernel
theorem dX4_quotient_80 : decode cX4_quotient 80 = .ok (.lload 8, 2) := by decide +kernel
theorem dX4_quotient_82 : decode cX4_quotient 82 = .ok (.invokestatic 40, 3) := by decide +kernel
theorem dX4_quotient_85 : decode cX4_quotient 85 = .ok (.isub, 1) := by decide +kernel
theorem dX4_quotient_86 : decode cX4_quotient 86 = .ok (.istore 11, 2) := by decide +kernel
theorem dX4_quotient_88 : decode cX4_quotient 88 = .ok (.lload 6, 2) := by decide +kernel
theorem dX4_quotient_90 : decode cX4_quotient 90 = .ok (.iload 10, 2) := by decide +kernel
theorem dX4_quotient_92 : decode cX4_quotient 92 = .ok (.lshl, 1) := by decide +kernel
theorem dX4_quotient_93 : decode cX4_quotient 93 = .ok (.lstore 6, 2) := by decide +kernel
theorem dX4_quotient_95 : decode cX4_quotient 95 = .ok (.lload 8, 2) := by decide +kernel
theorem dX4_quotient_97 : decode cX4_quotient 97 = .ok (.iload 11, 2) := by decide +kernel
theorem dX4_quotient_99 : decode cX4_quotient 99 = .ok (.lshl, 1) := by decide +kernel
theorem dX4_quotient_100 : decode cX4_quotient 100 = .ok (.lstore 8, 2) := by decide +kernel
theorem dX4_quotient_102 : decode cX4_quotient 102 = .ok (.lload 6, 2) := by decide +kernel
theorem dX4_quotient_104 : decode cX4_quotient 104 = .ok (.lload 8, 2) := by decide +kernel
theorem dX4_quotient_106 : decode cX4_quotient 106 = .ok (.ldiv, 1) := by decide +kernel
theorem dX4_quotient_107 : decode cX4_quotient 107 = .ok (.lstore 12, 2) := by decide +kernel
theorem dX4_quotient_109 : decode cX4_quotient 109 = .ok (.lload 6, 2) := by decide +kernel
theorem dX4_quotient_111 : decode cX4_quotient 111 = .ok (.lload 8, 2) := by decide +kernel
theorem dX4_quotient_113 : decode cX4_quotient 113 = .ok (.lrem, 1) := by decide +kernel
theorem dX4_quotient_114 : decode cX4_quotient 114 = .ok (.lstore 14, 2) := by decide +kernel
theorem dX4_quotient_116 : decode cX4_quotient 116 = .ok (.iconst 0, 1) := by decide +kernel
theorem dX4_quotient_117 : decode cX4_quotient 117 = .ok (.istore 16, 2) := by decide +kernel
theorem dX4_quotient_119 : decode cX4_quotient 119 = .ok (.iload 16, 2) := by decide +kernel
theorem dX4_quotient_121 : decode cX4_quotient 121 = .ok (.bipush 6, 2) := by decide +kernel
theorem dX4_quotient_123 : decode cX4_quotient 123 = .ok (.if_icmp .ge 36, 3) := by decide +kernel
theorem dX4_quotient_126 : decode cX4_quotient 126 = .ok (.lload 14, 2) := by decide +kernel
theorem dX4_quotient_128 : decode cX4_quotient 128 = .ok (.bipush 10, 2) := by decide +kernel
theorem dX4_quotient_130 : decode cX4_quotient 130 = .ok (.lshl, 1) := by decide +kernel
theorem dX4_quotient_131 : decode cX4_quotient 131 = .ok (.lstore 14, 2) := by decide +kernel
theorem dX4_quotient_133 : decode cX4_quotient 133 = .ok (.lload 12, 2) := by decide +kernel
theorem dX4_quotient_135 : decode cX4_quotient 135 = .ok (.bipush 10, 2) := by decide +kernel
theorem dX4_quotient_137 : decode cX4_quotient 137 = .ok (.lshl, 1) := by decide +kernel
theorem dX4_quotient_138 : decode cX4_quotient 138 = .ok (.lload 14, 2) := by decide +kernel
theorem dX4_quotient_140 : decode cX4_quotient 140 = .ok (.lload 8, 2) := by decide +kernel
theorem dX4_quotient_142 : decode cX4_quotient 142 = .ok (.ldiv, 1) := by decide +kernel
theorem dX4_quotient_143 : decode cX4_quotient 143 = .ok (.lor, 1) := by decide +kernel
theorem dX4_quotient_144 : decode cX4_quotient 144 = .ok (.lstore 12, 2) := by decide +kernel
theorem dX4_quotient_146 : decode cX4_quotient 146 = .ok (.lload 14, 2) := by decide +kernel
theorem dX4_quotient_148 : decode cX4_quotient 148 = .ok (.lload 8, 2) := by decide +kernel
theorem dX4_quotient_150 : decode cX4_quotient 150 = .ok (.lrem, 1) := by decide +kernel
theorem dX4_quotient_151 : decode cX4_quotient 151 = .ok (.lstore 14, 2) := by decide +kernel
theorem dX4_quotient_153 : decode cX4_quotient 153 = .ok (.iinc 16 1, 3) := by decide +kernel
theorem dX4_quotient_156 : decode cX4_quotient 156 = .ok (.goto (-37), 3) := by decide +kernel
theorem dX4_quotient_159 : decode cX4_quotient 159 = .ok (.iload_n 0, 1) := by decide +kernel
theorem dX4_quotient_160 : decode cX4_quotient 160 = .ok (.lload_n 1, 1) := by decide +kernel
theorem dX4_quotient_161 : decode cX4_quotient 161 = .ok (.invokestatic 24, 3) := by decide +kernel
theorem dX4_quotient_164 : decode cX4_quotient 164 = .ok (.iload 10, 2) := by decide +kernel
theorem dX4_quotient_166 : decode cX4_quotient 166 = .ok (.isub, 1) := by decide +kernel
theorem dX4_quotient_167 : decode cX4_quotient 167 = .ok (.iload_n 0, 1) := by decide +kernel
theorem dX4_quotient_168 : decode cX4_quotient 168 = .ok (.lload_n 3, 1) := by decide +kernel
theorem dX4_quotient_169 : decode cX4_quotient 169 = .ok (.invokestatic 24, 3) := by decide +kernel
theorem dX4_quotient_172 : decode cX4_quotient 172 = .ok (.isub, 1) := by decide +kernel
theorem dX4_quotient_173 : decode cX4_quotient 173 = .ok (.iload 11, 2) := by decide +kernel
theorem dX4_quotient_175 : decode cX4_quotient 175 = .ok (.iadd, 1) := by decide +kernel
theorem dX4_quotient_176 : decode cX4_quotient 176 = .ok (.istore 16, 2) := by decide +kernel
theorem dX4_quotient_178 : decode cX4_quotient 178 = .ok (.iload_n 0, 1) := by decide +kernel
theorem dX4_quotient_179 : decode cX4_quotient 179 = .ok (.iload 5, 2) := by decide +kernel
theorem dX4_quotient_181 : decode cX4_quotient 181 = .ok (.lload 12, 2) := by decide +kernel
theorem dX4_quotient_183 : decode cX4_quotient 183 = .ok (.lload 14, 2) := by decide +kernel
theorem dX4_quotient_185 : decode cX4_quotient 185 = .ok (.invokestatic 44, 3) := by decide +kernel
theorem dX4_quotient_188 : decode cX4_quotient 188 = .ok (.iload 16, 2) := by decide +kernel
theorem dX4_quotient_190 : decode cX4_quotient 190 = .ok (.bipush 60, 2) := by decide +kernel
theorem dX4_quotient_192 : decode cX4_quotient 192 = .ok (.isub, 1) := by decide +kernel
theorem dX4_quotient_193 : decode cX4_quotient 193 = .ok (.invokestatic 32, 3) := by decide +kernel
theorem dX4_quotient_196 : decode cX4_quotient 196 = .ok (.lreturn, 1) := by decide +kernel
set_option maxRecDepth 20000 in
theorem ggX4_timesInt_X4_mantissa : GoodIn wsX4_timesInt wsX4_mantissa := goodIn_r _ [8, 9, 10, 7, 11, 12, 13, 14, 15, 16] (by decide +kernel) (by decide +kernel)
set_option maxRecDepth 20000 in
theorem gX4_timesInt_X4_mantissa : GoodIn wsX4_timesInt (va_wsS RX4 21 yX4_mantissa wsX4_mantissa) := goodIn_app (goodIn_of _ (by decide +kernel)) ggX4_timesInt_X4_mantissa
set_option maxRecDepth 20000 in
theorem ggX4_timesInt_X4_exponent : GoodIn wsX4_timesInt wsX4_exponent := goodIn_r _ [19, 20, 21, 3, 22, 12, 13, 7, 14, 15, 16, 9, 10, 11, 23, 24, 25] (by decide +kernel) (by decide +kernel)
set_option maxRecDepth 20000 in
theorem gX4_timesInt_X4_exponent : GoodIn wsX4_timesInt (va_wsS RX4 24 yX4_exponent wsX4_exponent) := goodIn_app (goodIn_of _ (by decide +kernel)) ggX4_timesInt_X4_exponent
set_option maxRecDepth 20000 in
theorem ggX4_timesInt_X4_nearest : GoodIn wsX4_timesInt wsX4_nearest := goodIn_r _ [28, 20, 21, 3, 22, 29, 30, 7, 31, 32, 33, 23, 24, 25, 34, 35, 36, 37, 38, 39, 40, 41, 42, 43, 44, 45, 9, 10, 11, 46, 47, 48, 49, 50, 51, 52, 53] (by decide +kernel) (by decide +kernel)
set_option maxRecDepth 20000 in
theorem gX4_timesInt_X4_nearest : GoodIn wsX4_timesInt (va_wsS RX4 32 yX4_nearest wsX4_nearest) := goodIn_app (goodIn_of _ (by decide +kernel)) ggX4_timesInt_X4_nearest
theorem dX4_timesInt_0 : decode cX4_timesInt 0 = .ok (.lload_n 0, 1) := by decide +kernel
theorem dX4_timesInt_1 : decode cX4_timesInt 1 = .ok (.lconst 0, 1) := by decide +kernel
theorem dX4_timesInt_2 : decode cX4_timesInt 2 = .ok (.lcmp, 1) := by decide +kernel
theorem dX4_timesInt_3 : decode cX4_timesInt 3 = .ok (.ifCond .ge 7, 3) := by decide +kernel
theorem dX4_timesInt_6 : decode cX4_timesInt 6 = .ok (.iconst 1, 1) := by decide +kernel
theorem dX4_timesInt_7 : decode cX4_timesInt 7 = .ok (.goto 4, 3) := by decide +kernel
theorem dX4_timesInt_10 : decode cX4_timesInt 10 = .ok (.iconst 0, 1) := by decide +kernel
theorem dX4_timesInt_11 : decode cX4_timesInt 11 = .ok (.iload_n 2, 1) := by decide +kernel
theorem dX4_timesInt_12 : decode cX4_timesInt 12 = .ok (.ifCond .ge 7, 3) := by decide +kernel
theorem dX4_timesInt_15 : decode cX4_timesInt 15 = .ok (.iconst 1, 1) := by decide +kernel
theorem dX4_timesInt_16 : decode cX4_timesInt 16 = .ok (.goto 4, 3) := by decide +kernel
theorem dX4_timesInt_19 : decode cX4_timesInt 19 = .ok (.iconst 0, 1) := by decide +kernel
theorem dX4_timesInt_20 : decode cX4_timesInt 20 = .ok (.if_icmp .eq 7, 3) := by decide +kernel
theorem dX4_timesInt_23 : decode cX4_timesInt 23 = .ok (.iconst 1, 1) := by decide +kernel
theorem dX4_timesInt_24 : decode cX4_timesInt 24 = .ok (.goto 4, 3) := by decide +kernel
theorem dX4_timesInt_27 : decode cX4_timesInt 27 = .ok (.iconst 0, 1) := by decide +kernel
theorem dX4_timesInt_28 : decode cX4_timesInt 28 = .ok (.istore_n 3, 1) := by decide +kernel
theorem dX4_timesInt_29 : decode cX4_timesInt 29 = .ok (.iconst 1, 1) := by decide +kernel
theorem dX4_timesInt_30 : decode cX4_timesInt 30 = .ok (.iload_n 3, 1) := by decide +kernel
theorem dX4_timesInt_31 : decode cX4_timesInt 31 = .ok (.iconst 1, 1) := by decide +kernel
theorem dX4_timesInt_32 : decode cX4_timesInt 32 = .ok (.lload_n 0, 1) := by decide +kernel
theorem dX4_timesInt_33 : decode cX4_timesInt 33 = .ok (.invokestatic 21, 3) := by decide +kernel
theorem dX4_timesInt_36 : decode cX4_timesInt 36 = .ok (.iload_n 2, 1) := by decide +kernel
theorem dX4_timesInt_37 : decode cX4_timesInt 37 = .ok (.i2l, 1) := by decide +kernel
theorem dX4_timesInt_38 : decode cX4_timesInt 38 = .ok (.invokestatic 48, 3) := by decide +kernel
theorem dX4_timesInt_41 : decode cX4_timesInt 41 = .ok (.lmul, 1) := by decide +kernel
theorem dX4_timesInt_42 : decode cX4_timesInt 42 = .ok (.iconst 1, 1) := by decide +kernel
theorem dX4_timesInt_43 : decode cX4_timesInt 43 = .ok (.lload_n 0, 1) := by decide +kernel
theorem dX4_timesInt_44 : decode cX4_timesInt 44 = .ok (.invokestatic 24, 3) := by decide +kernel
theorem dX4_timesInt_47 : decode cX4_timesInt 47 = .ok (.invokestatic 32, 3) := by decide +kernel
theorem dX4_timesInt_50 : decode cX4_timesInt 50 = .ok (.lreturn, 1) := by decide +kernel
set_option maxRecDepth 20000 in
theorem ggX4_leftOver_X4_mantissa : GoodIn wsX4_leftOver wsX4_mantissa := goodIn_r _ [11, 12, 13, 10, 14, 15, 16, 17, 18, 19] (by decide +kernel) (by decide +kernel)
set_option maxRecDepth 20000 in
theorem gX4_leftOver_X4_mantissa : GoodIn wsX4_leftOver (va_wsS RX4 21 yX4_mantissa wsX4_mantissa) := goodIn_app (goodIn_of _ (by decide +kernel)) ggX4_leftOver_X4_mantissa
set_option maxRecDepth 20000 in
theorem ggX4_leftOver_X4_sizeOf : GoodIn wsX4_leftOver wsX4_sizeOf := goodIn_r _ [17, 18, 19] (by decide +kernel) (by decide +kernel)
set_option maxRecDepth 20000 in
theorem gX4_leftOver_X4_sizeOf : GoodIn wsX4_leftOver (va_wsS RX4 7 yX4_sizeOf wsX4_sizeOf) := goodIn_app (goodIn_of _ (by decide +kernel)) ggX4_leftOver_X4_sizeOf
set_option maxRecDepth 20000 in
theorem ggX4_leftOver_J13_numberOfLeadingZeros_95d88 : GoodIn wsX4_leftOver wsJ13_numberOfLeadingZeros_95d88 := goodIn_r _ [23, 24, 25, 26, 27, 28] (by decide +kernel) (by decide +kernel)
set_option maxRecDepth 20000 in
theorem gX4_leftOver_J13_numberOfLeadingZeros_95d88 : GoodIn wsX4_leftOver (va_wsS RX4 54 yJ13_numberOfLeadingZeros_95d88 wsJ13_numberOfLeadingZeros_95d88) := goodIn_app (goodIn_of _ (by decide +kernel)) ggX4_leftOver_J13_numberOfLeadingZeros_95d88
set_option maxRecDepth 20000 in
theorem ggX4_leftOver_X4_exponent : GoodIn wsX4_leftOver wsX4_exponent := goodIn_r _ [31, 1, 2, 3, 4, 15, 16, 10, 17, 18, 19, 12, 13, 14, 32, 33, 34] (by decide +kernel) (by decide +kernel)
set_option maxRecDepth 20000 in
theorem gX4_leftOver_X4_exponent : GoodIn wsX4_leftOver (va_wsS RX4 24 yX4_exponent wsX4_exponent) := goodIn_app (goodIn_of _ (by decide +kernel)) ggX4_leftOver_X4_exponent
set_option maxRecDepth 20000 in
theorem ggX4_leftOver_X4_nearest : GoodIn wsX4_leftOver wsX4_nearest := goodIn_r _ [37, 1, 2, 3, 4, 38, 39, 10, 40, 41, 42, 32, 33, 34, 43, 44, 45, 20, 21, 22, 23, 24, 25, 26, 27, 28, 12, 13, 14, 46, 47, 48, 49, 50, 51, 52, 53] (by decide +kernel) (by decide +kernel)
set_option maxRecDepth 20000 in
theorem gX4_leftOver_X4_nearest : GoodIn wsX4_leftOver (va_wsS RX4 32 yX4_nearest wsX4_nearest) := goodIn_app (goodIn_of _ (by decide +kernel)) ggX4_leftOver_X4_nearest
theorem dX4_leftOver_0 : decode cX4_leftOver 0 = .ok (.iload_n 0, 1) := by decide +kernel
theorem dX4_leftOver_1 : decode cX4_leftOver 1 = .ok (.lload_n 3, 1) := by decide +kernel
theorem dX4_leftOver_2 : decode cX4_leftOver 2 = .ok (.invokestatic 21, 3) := by decide +kernel
theorem dX4_leftOver_5 : decode cX4_leftOver 5 = .ok (.lstore 5, 2) := by decide +kernel
theorem dX4_leftOver_7 : decode cX4_leftOver 7 = .ok (.lload 5, 2) := by decide +kernel
theorem dX4_leftOver_9 : decode cX4_leftOver 9 = .ok (.lconst 0, 1) := by decide +kernel
theorem dX4_leftOver_10 : decode cX4_leftOver 10 = .ok (.lcmp, 1) := by decide +kernel
theorem dX4_leftOver_11 : decode cX4_leftOver 11 = .ok (.ifCond .eq 17, 3) := by decide +kernel
theorem dX4_leftOver_14 : decode cX4_leftOver 14 = .ok (.iload_n 0, 1) := by decide +kernel
theorem dX4_leftOver_15 : decode cX4_leftOver 15 = .ok (.lload_n 1, 1) := by decide +kernel
theorem dX4_leftOver_16 : decode cX4_leftOver 16 = .ok (.invokestatic 7, 3) := by decide +kernel
theorem dX4_leftOver_19 : decode cX4_leftOver 19 = .ok (.iload_n 0, 1) := by decide +kernel
theorem dX4_leftOver_20 : decode cX4_leftOver 20 = .ok (.lload_n 3, 1) := by decide +kernel
theorem dX4_leftOver_21 : decode cX4_leftOver 21 = .ok (.invokestatic 7, 3) := by decide +kernel
theorem dX4_leftOver_24 : decode cX4_leftOver 24 = .ok (.lcmp, 1) := by decide +kernel
theorem dX4_leftOver_25 : decode cX4_leftOver 25 = .ok (.ifCond .ge 5, 3) := by decide +kernel
theorem dX4_leftOver_28 : decode cX4_leftOver 28 = .ok (.lload_n 1, 1) := by decide +kernel
theorem dX4_leftOver_29 : decode cX4_leftOver 29 = .ok (.lreturn, 1) := by decide +kernel
theorem dX4_leftOver_30 : decode cX4_leftOver 30 = .ok (.iload_n 0, 1) := by decide +kernel
theorem dX4_leftOver_31 : decode cX4_leftOver 31 = .ok (.lload_n 1, 1) := by decide +kernel
theorem dX4_leftOver_32 : decode cX4_leftOver 32 = .ok (.invokestatic 21, 3) := by decide +kernel
theorem dX4_leftOver_35 : decode cX4_leftOver 35 = .ok (.lload 5, 2) := by decide +kernel
theorem dX4_leftOver_37 : decode cX4_leftOver 37 = .ok (.lrem, 1) := by decide +kernel
theorem dX4_leftOver_38 : decode cX4_leftOver 38 = .ok (.lstore 7, 2) := by decide +kernel
theorem dX4_leftOver_40 : decode cX4_leftOver 40 = .ok (.bipush 10, 2) := by decide +kernel
theorem dX4_leftOver_42 : decode cX4_leftOver 42 = .ok (.lload 5, 2) := by decide +kernel
theorem dX4_leftOver_44 : decode cX4_leftOver 44 = .ok (.invokestatic 54, 3) := by decide +kernel
theorem dX4_leftOver_47 : decode cX4_leftOver 47 = .ok (.iconst 1, 1) := by decide +kernel
theorem dX4_leftOver_48 : decode cX4_leftOver 48 = .ok (.isub, 1) := by decide +kernel
theorem dX4_leftOver_49 : decode cX4_leftOver 49 = .ok (.invokestatic 57, 3) := by decide +kernel
theorem dX4_leftOver_52 : decode cX4_leftOver 52 = .ok (.istore 9, 2) := by decide +kernel
theorem dX4_leftOver_54 : decode cX4_leftOver 54 = .ok (.iload_n 0, 1) := by decide +kernel
theorem dX4_leftOver_55 : decode cX4_leftOver 55 = .ok (.lload_n 1, 1) := by decide +kernel
theorem dX4_leftOver_56 : decode cX4_leftOver 56 = .ok (.invokestatic 24, 3) := by decide +kernel
theorem dX4_leftOver_59 : decode cX4_leftOver 59 = .ok (.iload_n 0, 1) := by decide +kernel
theorem dX4_leftOver_60 : decode cX4_leftOver 60 = .ok (.lload_n 3, 1) := by decide +kernel
theorem dX4_leftOver_61 : decode cX4_leftOver 61 = .ok (.invokestatic 24, 3) := by decide +kernel
theorem dX4_leftOver_64 : decode cX4_leftOver 64 = .ok (.isub, 1) := by decide +kernel
theorem dX4_leftOver_65 : decode cX4_leftOver 65 = .ok (.istore 10, 2) := by decide +kernel
theorem dX4_leftOver_67 : decode cX4_leftOver 67 = .ok (.iload 10, 2) := by decide +kernel
theorem dX4_leftOver_69 : decode cX4_leftOver 69 = .ok (.ifCond .le 28, 3) := by decide +kernel
theorem dX4_leftOver_72 : decode cX4_leftOver 72 = .ok (.lload 7, 2) := by decide +kernel
theorem dX4_leftOver_74 : decode cX4_leftOver 74 = .ok (.iload 9, 2) := by decide +kernel
theorem dX4_leftOver_76 : decode cX4_leftOver 76 = .ok (.iload 10, 2) := by decide +kernel
theorem dX4_leftOver_78 : decode cX4_leftOver 78 = .ok (.invokestatic 61, 3) := by decide +kernel
theorem dX4_leftOver_81 : decode cX4_leftOver 81 = .ok (.lshl, 1) := by decide +kernel
theorem dX4_leftOver_82 : decode cX4_leftOver 82 = .ok (.lload 5, 2) := by decide +kernel
theorem dX4_leftOver_84 : decode cX4_leftOver 84 = .ok (.lrem, 1) := by decide +kernel
theorem dX4_leftOver_85 : decode cX4_leftOver 85 = .ok (.lstore 7, 2) := by decide +kernel
theorem dX4_leftOver_87 : decode cX4_leftOver 87 = .ok (.iload 10, 2) := by decide +kernel
theorem dX4_leftOver_89 : decode cX4_leftOver 89 = .ok (.iload 9, 2) := by decide +kernel
theorem dX4_leftOver_91 : decode cX4_leftOver 91 = .ok (.isub, 1) := by decide +kernel
theorem dX4_leftOver_92 : decode cX4_leftOver 92 = .ok (.istore 10, 2) := by decide +kernel
theorem dX4_leftOver_94 : decode cX4_leftOver 94 = .ok (.goto (-27), 3) := by decide +kernel
theorem dX4_leftOver_97 : decode cX4_leftOver 97 = .ok (.iload_n 0, 1) := by decide +kernel
theorem dX4_leftOver_98 : decode cX4_leftOver 98 = .ok (.lload_n 1, 1) := by decide +kernel
theorem dX4_leftOver_99 : decode cX4_leftOver 99 = .ok (.lconst 0, 1) := by decide +kernel
theorem dX4_leftOver_100 : decode cX4_leftOver 100 = .ok (.lcmp, 1) := by decide +kernel
theorem dX4_leftOver_101 : decode cX4_leftOver 101 = .ok (.ifCond .ge 7, 3) := by decide +kernel
theorem dX4_leftOver_104 : decode cX4_leftOver 104 = .ok (.iconst 1, 1) := by decide +kernel
theorem dX4_leftOver_105 : decode cX4_leftOver 105 = .ok (.goto 4, 3) := by decide +kernel
theorem dX4_leftOver_108 : decode cX4_leftOver 108 = .ok (.iconst 0, 1) := by decide +kernel
theorem dX4_leftOver_109 : decode cX4_leftOver 109 = .ok (.lload 7, 2) := by decide +kernel
theorem dX4_leftOver_111 : decode cX4_leftOver 111 = .ok (.iload_n 0, 1) := by decide +kernel
theorem dX4_leftOver_112 : decode cX4_leftOver 112 = .ok (.lload_n 3, 1) := by decide +kernel
theorem dX4_leftOver_113 : decode cX4_leftOver 113 = .ok (.invokestatic 24, 3) := by decide +kernel
theorem dX4_leftOver_116 : decode cX4_leftOver 116 = .ok (.invokestatic 32, 3) := by decide +kernel
theorem dX4_leftOver_119 : decode cX4_leftOver 119 = .ok (.lreturn, 1) := by decide +kernel
set_option maxRecDepth 20000 in
theorem ggX4_ofLong_X4_nearest : GoodIn wsX4_ofLong wsX4_nearest := goodIn_r _ [8, 9, 10, 3, 11, 12, 13, 7, 14, 15, 16, 17, 18, 19, 20, 21, 22, 23, 24, 25, 26, 27, 28, 29, 30, 31, 32, 33, 34, 35, 36, 37, 38, 39, 40, 41, 42] (by decide +kernel) (by decide +kernel)
set_option maxRecDepth 20000 in
theorem gX4_ofLong_X4_nearest : GoodIn wsX4_ofLong (va_wsS RX4 32 yX4_nearest wsX4_nearest) := goodIn_app (goodIn_of _ (by decide +kernel)) ggX4_ofLong_X4_nearest
theorem dX4_ofLong_0 : decode cX4_ofLong 0 = .ok (.iload_n 0, 1) := by decide +kernel
theorem dX4_ofLong_1 : decode cX4_ofLong 1 = .ok (.lload_n 1, 1) := by decide +kernel
theorem dX4_ofLong_2 : decode cX4_ofLong 2 = .ok (.lconst 0, 1) := by decide +kernel
theorem dX4_ofLong_3 : decode cX4_ofLong 3 = .ok (.lcmp, 1) := by decide +kernel
theorem dX4_ofLong_4 : decode cX4_ofLong 4 = .ok (.ifCond .ge 7, 3) := by decide +kernel
theorem dX4_ofLong_7 : decode cX4_ofLong 7 = .ok (.iconst 1, 1) := by decide +kernel
theorem dX4_ofLong_8 : decode cX4_ofLong 8 = .ok (.goto 4, 3) := by decide +kernel
theorem dX4_ofLong_11 : decode cX4_ofLong 11 = .ok (.iconst 0, 1) := by decide +kernel
theorem dX4_ofLong_12 : decode cX4_ofLong 12 = .ok (.lload_n 1, 1) := by decide +kernel
theorem dX4_ofLong_13 : decode cX4_ofLong 13 = .ok (.invokestatic 48, 3) := by decide +kernel
theorem dX4_ofLong_16 : decode cX4_ofLong 16 = .ok (.iconst 0, 1) := by decide +kernel
theorem dX4_ofLong_17 : decode cX4_ofLong 17 = .ok (.invokestatic 32, 3) := by decide +kernel
theorem dX4_ofLong_20 : decode cX4_ofLong 20 = .ok (.lreturn, 1) := by decide +kernel
set_option maxRecDepth 20000 in
theorem ggX4_ofReal_X4_isFit : GoodIn wsX4_ofReal wsX4_isFit := goodIn_r _ [4, 5, 6, 3, 7, 8, 9, 10, 11, 12, 13, 14] (by decide +kernel) (by decide +kernel)
set_option maxRecDepth 20000 in
theorem gX4_ofReal_X4_isFit : GoodIn wsX4_ofReal (va_wsS RX4 64 yX4_isFit wsX4_isFit) := goodIn_app (goodIn_of _ (by decide +kernel)) ggX4_ofReal_X4_isFit
set_option maxRecDepth 20000 in
theorem ggX4_ofReal_X4_endless : GoodIn wsX4_ofReal wsX4_endless := goodIn_r _ [12, 13, 14] (by decide +kernel) (by decide +kernel)
set_option maxRecDepth 20000 in
theorem gX4_ofReal_X4_endless : GoodIn wsX4_ofReal (va_wsS RX4 13 yX4_endless wsX4_endless) := goodIn_app (goodIn_of _ (by decide +kernel)) ggX4_ofReal_X4_endless
set_option maxRecDepth 20000 in
theorem ggX4_ofReal_X4_signed : GoodIn wsX4_ofReal wsX4_signed := goodIn_r _ [17, 18, 19] (by decide +kernel) (by decide +kernel)
set_option maxRecDepth 20000 in
theorem gX4_ofReal_X4_signed : GoodIn wsX4_ofReal (va_wsS RX4 36 yX4_signed wsX4_signed) := goodIn_app (goodIn_of _ (by decide +kernel)) ggX4_ofReal_X4_signed
set_option maxRecDepth 20000 in
theorem ggX4_ofReal_X4_mantissa : GoodIn wsX4_ofReal wsX4_mantissa := goodIn_r _ [22, 23, 24, 3, 25, 5, 6, 7, 8, 9] (by decide +kernel) (by decide +kernel)
set_option maxRecDepth 20000 in
theorem gX4_ofReal_X4_mantissa : GoodIn wsX4_ofReal (va_wsS RX4 21 yX4_mantissa wsX4_mantissa) := goodIn_app (goodIn_of _ (by decide +kernel)) ggX4_ofReal_X4_mantissa
set_option maxRecDepth 20000 in
theorem ggX4_ofReal_X4_exponent : GoodIn wsX4_ofReal wsX4_exponent := goodIn_r _ [28, 29, 30, 31, 32, 5, 6, 3, 7, 8, 9, 23, 24, 25, 33, 34, 35] (by decide +kernel) (by decide +kernel)
set_option maxRecDepth 20000 in
theorem gX4_ofReal_X4_exponent : GoodIn wsX4_ofReal (va_wsS RX4 24 yX4_exponent wsX4_exponent) := goodIn_app (goodIn_of _ (by decide +kernel)) ggX4_ofReal_X4_exponent
set_option maxRecDepth 20000 in
theorem ggX4_ofReal_X4_nearest : GoodIn wsX4_ofReal wsX4_nearest := goodIn_r _ [38, 29, 30, 31, 32, 15, 16, 3, 17, 18, 19, 33, 34, 35, 39, 40, 41, 42, 43, 44, 45, 46, 47, 48, 49, 50, 23, 24, 25, 10, 11, 12, 13, 14, 51, 52, 53] (by decide +kernel) (by decide +kernel)
set_option maxRecDepth 20000 in
theorem gX4_ofReal_X4_nearest : GoodIn wsX4_ofReal (va_wsS RX4 32 yX4_nearest wsX4_nearest) := goodIn_app (goodIn_of _ (by decide +kernel)) ggX4_ofReal_X4_nearest
theorem dX4_ofReal_0 : decode cX4_ofReal 0 = .ok (.iload_n 0, 1) := by decide +kernel
theorem dX4_ofReal_1 : decode cX4_ofReal 1 = .ok (.lload_n 2, 1) := by decide +kernel
theorem dX4_ofReal_2 : decode cX4_ofReal 2 = .ok (.invokestatic 64, 3) := by decide +kernel
theorem dX4_ofReal_5 : decode cX4_ofReal 5 = .ok (.ifCond .ne 23, 3) := by decide +kernel
theorem dX4_ofReal_8 : decode cX4_ofReal 8 = .ok (.iload_n 1, 1) := by decide +kernel
theorem dX4_ofReal_9 : decode cX4_ofReal 9 = .ok (.lload_n 2, 1) := by decide +kernel
theorem dX4_ofReal_10 : decode cX4_ofReal 10 = .ok (.lconst 0, 1) := by decide +kernel
theorem dX4_ofReal_11 : decode cX4_ofReal 11 = .ok (.lcmp, 1) := by decide +kernel
theorem dX4_ofReal_12 : decode cX4_ofReal 12 = .ok (.ifCond .ge 7, 3) := by decide +kernel
theorem dX4_ofReal_15 : decode cX4_ofReal 15 = .ok (.iconst 1, 1) := by decide +kernel
theorem dX4_ofReal_16 : decode cX4_ofReal 16 = .ok (.goto 4, 3) := by decide +kernel
theorem dX4_ofReal_19 : decode cX4_ofReal 19 = .ok (.iconst 0, 1) := by decide +kernel
theorem dX4_ofReal_20 : decode cX4_ofReal 20 = .ok (.iload_n 1, 1) := by decide +kernel
theorem dX4_ofReal_21 : decode cX4_ofReal 21 = .ok (.invokestatic 13, 3) := by decide +kernel
theorem dX4_ofReal_24 : decode cX4_ofReal 24 = .ok (.invokestatic 36, 3) := by decide +kernel
theorem dX4_ofReal_27 : decode cX4_ofReal 27 = .ok (.lreturn, 1) := by decide +kernel
theorem dX4_ofReal_28 : decode cX4_ofReal 28 = .ok (.iload_n 1, 1) := by decide +kernel
theorem dX4_ofReal_29 : decode cX4_ofReal 29 = .ok (.lload_n 2, 1) := by decide +kernel
theorem dX4_ofReal_30 : decode cX4_ofReal 30 = .ok (.lconst 0, 1) := by decide +kernel
theorem dX4_ofReal_31 : decode cX4_ofReal 31 = .ok (.lcmp, 1) := by decide +kernel
theorem dX4_ofReal_32 : decode cX4_ofReal 32 = .ok (.ifCond .ge 7, 3) := by decide +kernel
theorem dX4_ofReal_35 : decode cX4_ofReal 35 = .ok (.iconst 1, 1) := by decide +kernel
theorem dX4_ofReal_36 : decode cX4_ofReal 36 = .ok (.goto 4, 3) := by decide +kernel
theorem dX4_ofReal_39 : decode cX4_ofReal 39 = .ok (.iconst 0, 1) := by decide +kernel
theorem dX4_ofReal_40 : decode cX4_ofReal 40 = .ok (.iload_n 0, 1) := by decide +kernel
theorem dX4_ofReal_41 : decode cX4_ofReal 41 = .ok (.lload_n 2, 1) := by decide +kernel
theorem dX4_ofReal_42 : decode cX4_ofReal 42 = .ok (.invokestatic 21, 3) := by decide +kernel
theorem dX4_ofReal_45 : decode cX4_ofReal 45 = .ok (.iload_n 0, 1) := by decide +kernel
theorem dX4_ofReal_46 : decode cX4_ofReal 46 = .ok (.lload_n 2, 1) := by decide +kernel
theorem dX4_ofReal_47 : decode cX4_ofReal 47 = .ok (.invokestatic 24, 3) := by decide +kernel
theorem dX4_ofReal_50 : decode cX4_ofReal 50 = .ok (.invokestatic 32, 3) := by decide +kernel
theorem dX4_ofReal_53 : decode cX4_ofReal 53 = .ok (.lreturn, 1) := by decide +kernel
set_option maxRecDepth 20000 in
theorem ggX4_cutToLong_X4_mantissa : GoodIn wsX4_cutToLong wsX4_mantissa := goodIn_r _ [6, 7, 8, 5, 9, 10, 11, 12, 2, 13] (by decide +kernel) (by decide +kernel)
set_option maxRecDepth 20000 in
theorem gX4_cutToLong_X4_mantissa : GoodIn wsX4_cutToLong (va_wsS RX4 21 yX4_mantissa wsX4_mantissa) := goodIn_app (goodIn_of _ (by decide +kernel)) ggX4_cutToLong_X4_mantissa
set_option maxRecDepth 20000 in
theorem ggX4_cutToLong_X4_exponent : GoodIn wsX4_cutToLong wsX4_exponent := goodIn_r _ [16, 17, 18, 19, 20, 10, 11, 5, 12, 2, 13, 7, 8, 9, 21, 22, 23] (by decide +kernel) (by decide +kernel)
set_option maxRecDepth 20000 in
theorem gX4_cutToLong_X4_exponent : GoodIn wsX4_cutToLong (va_wsS RX4 24 yX4_exponent wsX4_exponent) := goodIn_app (goodIn_of _ (by decide +kernel)) ggX4_cutToLong_X4_exponent
set_option maxRecDepth 20000 in
theorem ggX4_cutToLong_X4_lengthOf : GoodIn wsX4_cutToLong wsX4_lengthOf := goodIn_r _ [26, 27, 28, 29, 30, 31, 32, 33, 34, 35] (by decide +kernel) (by decide +kernel)
set_option maxRecDepth 20000 in
theorem gX4_cutToLong_X4_lengthOf : GoodIn wsX4_cutToLong (va_wsS RX4 40 yX4_lengthOf wsX4_lengthOf) := goodIn_app (goodIn_of _ (by decide +kernel)) ggX4_cutToLong_X4_lengthOf
theorem dX4_cutToLong_0 : decode cX4_cutToLong 0 = .ok (.iload_n 0, 1) := by decide +kernel
theorem dX4_cutToLong_1 : decode cX4_cutToLong 1 = .ok (.lload_n 1, 1) := by decide +kernel
theorem dX4_cutToLong_2 : decode cX4_cutToLong 2 = .ok (.invokestatic 21, 3) := by decide +kernel
theorem dX4_cutToLong_5 : decode cX4_cutToLong 5 = .ok (.lstore_n 3, 1) := by decide +kernel
theorem dX4_cutToLong_6 : decode cX4_cutToLong 6 = .ok (.iload_n 0, 1) := by decide +kernel
theorem dX4_cutToLong_7 : decode cX4_cutToLong 7 = .ok (.lload_n 1, 1) := by decide +kernel
theorem dX4_cutToLong_8 : decode cX4_cutToLong 8 = .ok (.invokestatic 24, 3) := by decide +kernel
theorem dX4_cutToLong_11 : decode cX4_cutToLong 11 = .ok (.istore 5, 2) := by decide +kernel
theorem dX4_cutToLong_13 : decode cX4_cutToLong 13 = .ok (.lload_n 3, 1) := by decide +kernel
theorem dX4_cutToLong_14 : decode cX4_cutToLong 14 = .ok (.invokestatic 40, 3) := by decide +kernel
theorem dX4_cutToLong_17 : decode cX4_cutToLong 17 = .ok (.iload 5, 2) := by decide +kernel
theorem dX4_cutToLong_19 : decode cX4_cutToLong 19 = .ok (.iadd, 1) := by decide +kernel
theorem dX4_cutToLong_20 : decode cX4_cutToLong 20 = .ok (.bipush 63, 2) := by decide +kernel
theorem dX4_cutToLong_22 : decode cX4_cutToLong 22 = .ok (.if_icmp .le 19, 3) := by decide +kernel
theorem dX4_cutToLong_25 : decode cX4_cutToLong 25 = .ok (.lload_n 1, 1) := by decide +kernel
theorem dX4_cutToLong_26 : decode cX4_cutToLong 26 = .ok (.lconst 0, 1) := by decide +kernel
theorem dX4_cutToLong_27 : decode cX4_cutToLong 27 = .ok (.lcmp, 1) := by decide +kernel
theorem dX4_cutToLong_28 : decode cX4_cutToLong 28 = .ok (.ifCond .ge 9, 3) := by decide +kernel
theorem dX4_cutToLong_31 : decode cX4_cutToLong 31 = .ok (.ldc2_w 19, 3) := by decide +kernel
theorem dX4_cutToLong_34 : decode cX4_cutToLong 34 = .ok (.goto 6, 3) := by decide +kernel
theorem dX4_cutToLong_37 : decode cX4_cutToLong 37 = .ok (.ldc2_w 68, 3) := by decide +kernel
theorem dX4_cutToLong_40 : decode cX4_cutToLong 40 = .ok (.lreturn, 1) := by decide +kernel
theorem dX4_cutToLong_41 : decode cX4_cutToLong 41 = .ok (.iload 5, 2) := by decide +kernel
theorem dX4_cutToLong_43 : decode cX4_cutToLong 43 = .ok (.bipush (-64), 2) := by decide +kernel
theorem dX4_cutToLong_45 : decode cX4_cutToLong 45 = .ok (.if_icmp .gt 5, 3) := by decide +kernel
theorem dX4_cutToLong_48 : decode cX4_cutToLong 48 = .ok (.lconst 0, 1) := by decide +kernel
theorem dX4_cutToLong_49 : decode cX4_cutToLong 49 = .ok (.lreturn, 1) := by decide +kernel
theorem dX4_cutToLong_50 : decode cX4_cutToLong 50 = .ok (.iload 5, 2) := by decide +kernel
theorem dX4_cutToLong_52 : decode cX4_cutToLong 52 = .ok (.ifCond .ge 11, 3) := by decide +kernel
theorem dX4_cutToLong_55 : decode cX4_cutToLong 55 = .ok (.lload_n 3, 1) := by decide +kernel
theorem dX4_cutToLong_56 : decode cX4_cutToLong 56 = .ok (.iload 5, 2) := by decide +kernel
theorem dX4_cutToLong_58 : decode cX4_cutToLong 58 = .ok (.ineg, 1) := by decide +kernel
theorem dX4_cutToLong_59 : decode cX4_cutToLong 59 = .ok (.lushr, 1) := by decide +kernel
theorem dX4_cutToLong_60 : decode cX4_cutToLong 60 = .ok (.goto 7, 3) := by decide +kernel
theorem dX4_cutToLong_63 : decode cX4_cutToLong 63 = .ok (.lload_n 3, 1) := by decide +kernel
theorem dX4_cutToLong_64 : decode cX4_cutToLong 64 = .ok (.iload 5, 2) := by decide +kernel
theorem dX4_cutToLong_66 : decode cX4_cutToLong 66 = .ok (.lshl, 1) := by decide +kernel
theorem dX4_cutToLong_67 : decode cX4_cutToLong 67 = .ok (.lstore 6, 2) := by decide +kernel
theorem dX4_cutToLong_69 : decode cX4_cutToLong 69 = .ok (.lload_n 1, 1) := by decide +kernel
theorem dX4_cutToLong_70 : decode cX4_cutToLong 70 = .ok (.lconst 0, 1) := by decide +kernel
theorem dX4_cutToLong_71 : decode cX4_cutToLong 71 = .ok (.lcmp, 1) := by decide +kernel
theorem dX4_cutToLong_72 : decode cX4_cutToLong 72 = .ok (.ifCond .ge 9, 3) := by decide +kernel
theorem dX4_cutToLong_75 : decode cX4_cutToLong 75 = .ok (.lload 6, 2) := by decide +kernel
theorem dX4_cutToLong_77 : decode cX4_cutToLong 77 = .ok (.lneg, 1) := by decide +kernel
theorem dX4_cutToLong_78 : decode cX4_cutToLong 78 = .ok (.goto 5, 3) := by decide +kernel
theorem dX4_cutToLong_81 : decode cX4_cutToLong 81 = .ok (.lload 6, 2) := by decide +kernel
theorem dX4_cutToLong_83 : decode cX4_cutToLong 83 = .ok (.lreturn, 1) := by decide +kernel
set_option maxRecDepth 20000 in
theorem ggX4_nearest_X4_signed : GoodIn wsX4_nearest wsX4_signed := goodIn_r _ [8, 9, 10] (by decide +kernel) (by decide +kernel)
set_option maxRecDepth 20000 in
theorem gX4_nearest_X4_signed : GoodIn wsX4_nearest (va_wsS RX4 36 yX4_signed wsX4_signed) := goodIn_app (goodIn_of _ (by decide +kernel)) ggX4_nearest_X4_signed
set_option maxRecDepth 20000 in
theorem ggX4_nearest_X4_leastExponent : GoodIn wsX4_nearest wsX4_leastExponent := goodIn_r _ [13] (by decide +kernel) (by decide +kernel)
set_option maxRecDepth 20000 in
theorem gX4_nearest_X4_leastExponent : GoodIn wsX4_nearest (va_wsS RX4 70 yX4_leastExponent wsX4_leastExponent) := goodIn_app (goodIn_of _ (by decide +kernel)) ggX4_nearest_X4_leastExponent
set_option maxRecDepth 20000 in
theorem ggX4_nearest_X4_lengthOf : GoodIn wsX4_nearest wsX4_lengthOf := goodIn_r _ [16, 17, 18, 19, 20, 21, 22, 23, 24, 25] (by decide +kernel) (by decide +kernel)
set_option maxRecDepth 20000 in
theorem gX4_nearest_X4_lengthOf : GoodIn wsX4_nearest (va_wsS RX4 40 yX4_lengthOf wsX4_lengthOf) := goodIn_app (goodIn_of _ (by decide +kernel)) ggX4_nearest_X4_lengthOf
set_option maxRecDepth 20000 in
theorem ggX4_nearest_X4_width : GoodIn wsX4_nearest wsX4_width := goodIn_r _ [28] (by decide +kernel) (by decide +kernel)
set_option maxRecDepth 20000 in
theorem gX4_nearest_X4_width : GoodIn wsX4_nearest (va_wsS RX4 74 yX4_width wsX4_width) := goodIn_app (goodIn_of _ (by decide +kernel)) ggX4_nearest_X4_width
set_option maxRecDepth 20000 in
theorem ggX4_nearest_X4_endless : GoodIn wsX4_nearest wsX4_endless := goodIn_r _ [31, 32, 33] (by decide +kernel) (by decide +kernel)
set_option maxRecDepth 20000 in
theorem gX4_nearest_X4_endless : GoodIn wsX4_nearest (va_wsS RX4 13 yX4_endless wsX4_endless) := goodIn_app (goodIn_of _ (by decide +kernel)) ggX4_nearest_X4_endless
set_option maxRecDepth 20000 in
theorem ggX4_nearest_X4_rounded : GoodIn wsX4_nearest wsX4_rounded := goodIn_r _ [36] (by decide +kernel) (by decide +kernel)
set_option maxRecDepth 20000 in
theorem gX4_nearest_X4_rounded : GoodIn wsX4_nearest (va_wsS RX4 77 yX4_rounded wsX4_rounded) := goodIn_app (goodIn_of _ (by decide +kernel)) ggX4_nearest_X4_rounded
theorem dX4_nearest_0 : decode cX4_nearest 0 = .ok (.lload_n 2, 1) := by decide +kernel
theorem dX4_nearest_1 : decode cX4_nearest 1 = .ok (.lconst 0, 1) := by decide +kernel
theorem dX4_nearest_2 : decode cX4_nearest 2 = .ok (.lcmp, 1) := by decide +kernel
theorem dX4_nearest_3 : decode cX4_nearest 3 = .ok (.ifCond .ne 10, 3) := by decide +kernel
theorem dX4_nearest_6 : decode cX4_nearest 6 = .ok (.iload_n 0, 1) := by decide +kernel
theorem dX4_nearest_7 : decode cX4_nearest 7 = .ok (.iload_n 1, 1) := by decide +kernel
theorem dX4_nearest_8 : decode cX4_nearest 8 = .ok (.lconst 0, 1) := by decide +kernel
theorem dX4_nearest_9 : decode cX4_nearest 9 = .ok (.invokestatic 36, 3) := by decide +kernel
theorem dX4_nearest_12 : decode cX4_nearest 12 = .ok (.lreturn, 1) := by decide +kernel
theorem dX4_nearest_13 : decode cX4_nearest 13 = .ok (.iload_n 0, 1) := by decide +kernel
theorem dX4_nearest_14 : decode cX4_nearest 14 = .ok (.invokestatic 70, 3) := by decide +kernel
theorem dX4_nearest_17 : decode cX4_nearest 17 = .ok (.istore 5, 2) := by decide +kernel
theorem dX4_nearest_19 : decode cX4_nearest 19 = .ok (.iload 4, 2) := by decide +kernel
theorem dX4_nearest_21 : decode cX4_nearest 21 = .ok (.lload_n 2, 1) := by decide +kernel
theorem dX4_nearest_22 : decode cX4_nearest 22 = .ok (.invokestatic 40, 3) := by decide +kernel
theorem dX4_nearest_25 : decode cX4_nearest 25 = .ok (.iadd, 1) := by decide +kernel
theorem dX4_nearest_26 : decode cX4_nearest 26 = .ok (.iconst 1, 1) := by decide +kernel
theorem dX4_nearest_27 : decode cX4_nearest 27 = .ok (.isub, 1) := by decide +kernel
theorem dX4_nearest_28 : decode cX4_nearest 28 = .ok (.iload_n 0, 1) := by decide +kernel
theorem dX4_nearest_29 : decode cX4_nearest 29 = .ok (.invokestatic 74, 3) := by decide +kernel
theorem dX4_nearest_32 : decode cX4_nearest 32 = .ok (.isub, 1) := by decide +kernel
theorem dX4_nearest_33 : decode cX4_nearest 33 = .ok (.iload 5, 2) := by decide +kernel
theorem dX4_nearest_35 : decode cX4_nearest 35 = .ok (.invokestatic 57, 3) := by decide +kernel
theorem dX4_nearest_38 : decode cX4_nearest 38 = .ok (.istore 6, 2) := by decide +kernel
theorem dX4_nearest_40 : decode cX4_nearest 40 = .ok (.iload_n 0, 1) := by decide +kernel
theorem dX4_nearest_41 : decode cX4_nearest 41 = .ok (.invokestatic 13, 3) := by decide +kernel
theorem dX4_nearest_44 : decode cX4_nearest 44 = .ok (.lstore 7, 2) := by decide +kernel
theorem dX4_nearest_46 : decode cX4_nearest 46 = .ok (.iload 6, 2) := by decide +kernel
theorem dX4_nearest_48 : decode cX4_nearest 48 = .ok (.iload 5, 2) := by decide +kernel
theorem dX4_nearest_50 : decode cX4_nearest 50 = .ok (.isub, 1) := by decide +kernel
theorem dX4_nearest_51 : decode cX4_nearest 51 = .ok (.i2l, 1) := by decide +kernel
theorem dX4_nearest_52 : decode cX4_nearest 52 = .ok (.lstore 9, 2) := by decide +kernel
theorem dX4_nearest_54 : decode cX4_nearest 54 = .ok (.lload 9, 2) := by decide +kernel
theorem dX4_nearest_56 : decode cX4_nearest 56 = .ok (.lconst 1, 1) := by decide +kernel
theorem dX4_nearest_57 : decode cX4_nearest 57 = .ok (.ladd, 1) := by decide +kernel
theorem dX4_nearest_58 : decode cX4_nearest 58 = .ok (.lload 7, 2) := by decide +kernel
theorem dX4_nearest_60 : decode cX4_nearest 60 = .ok (.iload_n 0, 1) := by decide +kernel
theorem dX4_nearest_61 : decode cX4_nearest 61 = .ok (.invokestatic 74, 3) := by decide +kernel
theorem dX4_nearest_64 : decode cX4_nearest 64 = .ok (.lushr, 1) := by decide +kernel
theorem dX4_nearest_65 : decode cX4_nearest 65 = .ok (.lcmp, 1) := by decide +kernel
theorem dX4_nearest_66 : decode cX4_nearest 66 = .ok (.ifCond .lt 11, 3) := by decide +kernel
theorem dX4_nearest_69 : decode cX4_nearest 69 = .ok (.iload_n 0, 1) := by decide +kernel
theorem dX4_nearest_70 : decode cX4_nearest 70 = .ok (.iload_n 1, 1) := by decide +kernel
theorem dX4_nearest_71 : decode cX4_nearest 71 = .ok (.lload 7, 2) := by decide +kernel
theorem dX4_nearest_73 : decode cX4_nearest 73 = .ok (.invokestatic 36, 3) := by decide +kernel
theorem dX4_nearest_76 : decode cX4_nearest 76 = .ok (.lreturn, 1) := by decide +kernel
theorem dX4_nearest_77 : decode cX4_nearest 77 = .ok (.lload 9, 2) := by decide +kernel
theorem dX4_nearest_79 : decode cX4_nearest 79 = .ok (.iload_n 0, 1) := by decide +kernel
theorem dX4_nearest_80 : decode cX4_nearest 80 = .ok (.invokestatic 74, 3) := by decide +kernel
theorem dX4_nearest_83 : decode cX4_nearest 83 = .ok (.lshl, 1) := by decide +kernel
theorem dX4_nearest_84 : decode cX4_nearest 84 = .ok (.lload_n 2, 1) := by decide +kernel
theorem dX4_nearest_85 : decode cX4_nearest 85 = .ok (.iload 6, 2) := by decide +kernel
theorem dX4_nearest_87 : decode cX4_nearest 87 = .ok (.iload 4, 2) := by decide +kernel
theorem dX4_nearest_89 : decode cX4_nearest 89 = .ok (.isub, 1) := by decide +kernel
theorem dX4_nearest_90 : decode cX4_nearest 90 = .ok (.invokestatic 77, 3) := by decide +kernel
theorem dX4_nearest_93 : decode cX4_nearest 93 = .ok (.ladd, 1) := by decide +kernel
theorem dX4_nearest_94 : decode cX4_nearest 94 = .ok (.lstore 11, 2) := by decide +kernel
theorem dX4_nearest_96 : decode cX4_nearest 96 = .ok (.iload_n 0, 1) := by decide +kernel
theorem dX4_nearest_97 : decode cX4_nearest 97 = .ok (.iload_n 1, 1) := by decide +kernel
theorem dX4_nearest_98 : decode cX4_nearest 98 = .ok (.lload 11, 2) := by decide +kernel
theorem dX4_nearest_100 : decode cX4_nearest 100 = .ok (.invokestatic 36, 3) := by decide +kernel
theorem dX4_nearest_103 : decode cX4_nearest 103 = .ok (.lreturn, 1) := by decide +kernel
theorem dX4_rounded_0 : decode cX4_rounded 0 = .ok (.iload_n 2, 1) := by decide +kernel
theorem dX4_rounded_1 : decode cX4_rounded 1 = .ok (.ifCond .gt 8, 3) := by decide +kernel
theorem dX4_rounded_4 : decode cX4_rounded 4 = .ok (.lload_n 0, 1) := by decide +kernel
theorem dX4_rounded_5 : decode cX4_rounded 5 = .ok (.iload_n 2, 1) := by decide +kernel
theorem dX4_rounded_6 : decode cX4_rounded 6 = .ok (.ineg, 1) := by decide +kernel
theorem dX4_rounded_7 : decode cX4_rounded 7 = .ok (.lshl, 1) := by decide +kernel
theorem dX4_rounded_8 : decode cX4_rounded 8 = .ok (.lreturn, 1) := by decide +kernel
theorem dX4_rounded_9 : decode cX4_rounded 9 = .ok (.iload_n 2, 1) := by decide +kernel
theorem dX4_rounded_10 : decode cX4_rounded 10 = .ok (.bipush 63, 2) := by decide +kernel
theorem dX4_rounded_12 : decode cX4_rounded 12 = .ok (.if_icmp .le 5, 3) := by decide +kernel
theorem dX4_rounded_15 : decode cX4_rounded 15 = .ok (.lconst 0, 1) := by decide +kernel
theorem dX4_rounded_16 : decode cX4_rounded 16 = .ok (.lreturn, 1) := by decide +kernel
theorem dX4_rounded_17 : decode cX4_rounded 17 = .ok (.lload_n 0, 1) := by decide +kernel
theorem dX4_rounded_18 : decode cX4_rounded 18 = .ok (.iload_n 2, 1) := by decide +kernel
theorem dX4_rounded_19 : decode cX4_rounded 19 = .ok (.lushr, 1) := by decide +kernel
theorem dX4_rounded_20 : decode cX4_rounded 20 = .ok (.lstore_n 3, 1) := by decide +kernel
theorem dX4_rounded_21 : decode cX4_rounded 21 = .ok (.lload_n 0, 1) := by decide +kernel
theorem dX4_rounded_22 : decode cX4_rounded 22 = .ok (.lconst 1, 1) := by decide +kernel
theorem dX4_rounded_23 : decode cX4_rounded 23 = .ok (.iload_n 2, 1) := by decide +kernel
theorem dX4_rounded_24 : decode cX4_rounded 24 = .ok (.lshl, 1) := by decide +kernel
theorem dX4_rounded_25 : decode cX4_rounded 25 = .ok (.lconst 1, 1) := by decide +kernel
theorem dX4_rounded_26 : decode cX4_rounded 26 = .ok (.lsub, 1) := by decide +kernel
theorem dX4_rounded_27 : decode cX4_rounded 27 = .ok (.land, 1) := by decide +kernel
theorem dX4_rounded_28 : decode cX4_rounded 28 = .ok (.lstore 5, 2) := by decide +kernel
theorem dX4_rounded_30 : decode cX4_rounded 30 = .ok (.lconst 1, 1) := by decide +kernel
theorem dX4_rounded_31 : decode cX4_rounded 31 = .ok (.iload_n 2, 1) := by decide +kernel
theorem dX4_rounded_32 : decode cX4_rounded 32 = .ok (.iconst 1, 1) := by decide +kernel
theorem dX4_rounded_33 : decode cX4_rounded 33 = .ok (.isub, 1) := by decide +kernel
theorem dX4_rounded_34 : decode cX4_rounded 34 = .ok (.lshl, 1) := by decide +kernel
theorem dX4_rounded_35 : decode cX4_rounded 35 = .ok (.lstore 7, 2) := by decide +kernel
theorem dX4_rounded_37 : decode cX4_rounded 37 = .ok (.lload 5, 2) := by decide +kernel
theorem dX4_rounded_39 : decode cX4_rounded 39 = .ok (.lload 7, 2) := by decide +kernel
theorem dX4_rounded_41 : decode cX4_rounded 41 = .ok (.lcmp, 1) := by decide +kernel
theorem dX4_rounded_42 : decode cX4_rounded 42 = .ok (.ifCond .gt 19, 3) := by decide +kernel
theorem dX4_rounded_45 : decode cX4_rounded 45 = .ok (.lload 5, 2) := by decide +kernel
theorem dX4_rounded_47 : decode cX4_rounded 47 = .ok (.lload 7, 2) := by decide +kernel
theorem dX4_rounded_49 : decode cX4_rounded 49 = .ok (.lcmp, 1) := by decide +kernel
theorem dX4_rounded_50 : decode cX4_rounded 50 = .ok (.ifCond .ne 15, 3) := by decide +kernel
theorem dX4_rounded_53 : decode cX4_rounded 53 = .ok (.lload_n 3, 1) := by decide +kernel
theorem dX4_rounded_54 : decode cX4_rounded 54 = .ok (.lconst 1, 1) := by decide +kernel
theorem dX4_rounded_55 : decode cX4_rounded 55 = .ok (.land, 1) := by decide +kernel
theorem dX4_rounded_56 : decode cX4_rounded 56 = .ok (.lconst 0, 1) := by decide +kernel
theorem dX4_rounded_57 : decode cX4_rounded 57 = .ok (.lcmp, 1) := by decide +kernel
theorem dX4_rounded_58 : decode cX4_rounded 58 = .ok (.ifCond .eq 7, 3) := by decide +kernel
theorem dX4_rounded_61 : decode cX4_rounded 61 = .ok (.iconst 1, 1) := by decide +kernel
theorem dX4_rounded_62 : decode cX4_rounded 62 = .ok (.goto 4, 3) := by decide +kernel
theorem dX4_rounded_65 : decode cX4_rounded 65 = .ok (.iconst 0, 1) := by decide +kernel
theorem dX4_rounded_66 : decode cX4_rounded 66 = .ok (.istore 9, 2) := by decide +kernel
theorem dX4_rounded_68 : decode cX4_rounded 68 = .ok (.iload 9, 2) := by decide +kernel
theorem dX4_rounded_70 : decode cX4_rounded 70 = .ok (.ifCond .eq 9, 3) := by decide +kernel
theorem dX4_rounded_73 : decode cX4_rounded 73 = .ok (.lload_n 3, 1) := by decide +kernel
theorem dX4_rounded_74 : decode cX4_rounded 74 = .ok (.lconst 1, 1) := by decide +kernel
theorem dX4_rounded_75 : decode cX4_rounded 75 = .ok (.ladd, 1) := by decide +kernel
theorem dX4_rounded_76 : decode cX4_rounded 76 = .ok (.goto 4, 3) := by decide +kernel
theorem dX4_rounded_79 : decode cX4_rounded 79 = .ok (.lload_n 3, 1) := by decide +kernel
theorem dX4_rounded_80 : decode cX4_rounded 80 = .ok (.lreturn, 1) := by decide +kernel
set_option maxRecDepth 20000 in
theorem ggX4_shiftedOut_X4_withMore : GoodIn wsX4_shiftedOut wsX4_withMore := goodIn_r _ [4] (by decide +kernel) (by decide +kernel)
set_option maxRecDepth 20000 in
theorem gX4_shiftedOut_X4_withMore : GoodIn wsX4_shiftedOut (va_wsS RX4 44 yX4_withMore wsX4_withMore) := goodIn_app (goodIn_of _ (by decide +kernel)) ggX4_shiftedOut_X4_withMore
theorem dX4_shiftedOut_0 : decode cX4_shiftedOut 0 = .ok (.iload_n 2, 1) := by decide +kernel
theorem dX4_shiftedOut_1 : decode cX4_shiftedOut 1 = .ok (.bipush 63, 2) := by decide +kernel
theorem dX4_shiftedOut_3 : decode cX4_shiftedOut 3 = .ok (.if_icmp .le 9, 3) := by decide +kernel
theorem dX4_shiftedOut_6 : decode cX4_shiftedOut 6 = .ok (.lconst 0, 1) := by decide +kernel
theorem dX4_shiftedOut_7 : decode cX4_shiftedOut 7 = .ok (.lload_n 0, 1) := by decide +kernel
theorem dX4_shiftedOut_8 : decode cX4_shiftedOut 8 = .ok (.invokestatic 44, 3) := by decide +kernel
theorem dX4_shiftedOut_11 : decode cX4_shiftedOut 11 = .ok (.lreturn, 1) := by decide +kernel
theorem dX4_shiftedOut_12 : decode cX4_shiftedOut 12 = .ok (.lload_n 0, 1) := by decide +kernel
theorem dX4_shiftedOut_13 : decode cX4_shiftedOut 13 = .ok (.iload_n 2, 1) := by decide +kernel
theorem dX4_shiftedOut_14 : decode cX4_shiftedOut 14 = .ok (.lushr, 1) := by decide +kernel
theorem dX4_shiftedOut_15 : decode cX4_shiftedOut 15 = .ok (.lload_n 0, 1) := by decide +kernel
theorem dX4_shiftedOut_16 : decode cX4_shiftedOut 16 = .ok (.lconst 1, 1) := by decide +kernel
theorem dX4_shiftedOut_17 : decode cX4_shiftedOut 17 = .ok (.iload_n 2, 1) := by decide +kernel
theorem dX4_shiftedOut_18 : decode cX4_shiftedOut 18 = .ok (.lshl, 1) := by decide +kernel
theorem dX4_shiftedOut_19 : decode cX4_shiftedOut 19 = .ok (.lconst 1, 1) := by decide +kernel
theorem dX4_shiftedOut_20 : decode cX4_shiftedOut 20 = .ok (.lsub, 1) := by decide +kernel
theorem dX4_shiftedOut_21 : decode cX4_shiftedOut 21 = .ok (.land, 1) := by decide +kernel
theorem dX4_shiftedOut_22 : decode cX4_shiftedOut 22 = .ok (.invokestatic 44, 3) := by decide +kernel
theorem dX4_shiftedOut_25 : decode cX4_shiftedOut 25 = .ok (.lreturn, 1) := by decide +kernel
theorem dX4_withMore_0 : decode cX4_withMore 0 = .ok (.lload_n 2, 1) := by decide +kernel
theorem dX4_withMore_1 : decode cX4_withMore 1 = .ok (.lconst 0, 1) := by decide +kernel
theorem dX4_withMore_2 : decode cX4_withMore 2 = .ok (.lcmp, 1) := by decide +kernel
theorem dX4_withMore_3 : decode cX4_withMore 3 = .ok (.ifCond .ne 7, 3) := by decide +kernel
theorem dX4_withMore_6 : decode cX4_withMore 6 = .ok (.lload_n 0, 1) := by decide +kernel
theorem dX4_withMore_7 : decode cX4_withMore 7 = .ok (.goto 6, 3) := by decide +kernel
theorem dX4_withMore_10 : decode cX4_withMore 10 = .ok (.lload_n 0, 1) := by decide +kernel
theorem dX4_withMore_11 : decode cX4_withMore 11 = .ok (.lconst 1, 1) := by decide +kernel
theorem dX4_withMore_12 : decode cX4_withMore 12 = .ok (.lor, 1) := by decide +kernel
theorem dX4_withMore_13 : decode cX4_withMore 13 = .ok (.lreturn, 1) := by decide +kernel
set_option maxRecDepth 20000 in
theorem ggX4_mantissa_X4_width : GoodIn wsX4_mantissa wsX4_width := goodIn_r _ [4] (by decide +kernel) (by decide +kernel)
set_option maxRecDepth 20000 in
theorem gX4_mantissa_X4_width : GoodIn wsX4_mantissa (va_wsS RX4 74 yX4_width wsX4_width) := goodIn_app (goodIn_of _ (by decide +kernel)) ggX4_mantissa_X4_width
set_option maxRecDepth 20000 in
theorem ggX4_mantissa_X4_sizeOf : GoodIn wsX4_mantissa wsX4_sizeOf := goodIn_r _ [7, 8, 9] (by decide +kernel) (by decide +kernel)
set_option maxRecDepth 20000 in
theorem gX4_mantissa_X4_sizeOf : GoodIn wsX4_mantissa (va_wsS RX4 7 yX4_sizeOf wsX4_sizeOf) := goodIn_app (goodIn_of _ (by decide +kernel)) ggX4_mantissa_X4_sizeOf
theorem dX4_mantissa_0 : decode cX4_mantissa 0 = .ok (.lconst 1, 1) := by decide +kernel
theorem dX4_mantissa_1 : decode cX4_mantissa 1 = .ok (.iload_n 0, 1) := by decide +kernel
theorem dX4_mantissa_2 : decode cX4_mantissa 2 = .ok (.invokestatic 74, 3) := by decide +kernel
theorem dX4_mantissa_5 : decode cX4_mantissa 5 = .ok (.lshl, 1) := by decide +kernel
theorem dX4_mantissa_6 : decode cX4_mantissa 6 = .ok (.lstore_n 3, 1) := by decide +kernel
theorem dX4_mantissa_7 : decode cX4_mantissa 7 = .ok (.lload_n 1, 1) := by decide +kernel
theorem dX4_mantissa_8 : decode cX4_mantissa 8 = .ok (.lload_n 3, 1) := by decide +kernel
theorem dX4_mantissa_9 : decode cX4_mantissa 9 = .ok (.lconst 1, 1) := by decide +kernel
theorem dX4_mantissa_10 : decode cX4_mantissa 10 = .ok (.lsub, 1) := by decide +kernel
theorem dX4_mantissa_11 : decode cX4_mantissa 11 = .ok (.land, 1) := by decide +kernel
theorem dX4_mantissa_12 : decode cX4_mantissa 12 = .ok (.lstore 5, 2) := by decide +kernel
theorem dX4_mantissa_14 : decode cX4_mantissa 14 = .ok (.iload_n 0, 1) := by decide +kernel
theorem dX4_mantissa_15 : decode cX4_mantissa 15 = .ok (.lload_n 1, 1) := by decide +kernel
theorem dX4_mantissa_16 : decode cX4_mantissa 16 = .ok (.invokestatic 7, 3) := by decide +kernel
theorem dX4_mantissa_19 : decode cX4_mantissa 19 = .ok (.lload_n 3, 1) := by decide +kernel
theorem dX4_mantissa_20 : decode cX4_mantissa 20 = .ok (.lcmp, 1) := by decide +kernel
theorem dX4_mantissa_21 : decode cX4_mantissa 21 = .ok (.ifCond .ge 8, 3) := by decide +kernel
theorem dX4_mantissa_24 : decode cX4_mantissa 24 = .ok (.lload 5, 2) := by decide +kernel
theorem dX4_mantissa_26 : decode cX4_mantissa 26 = .ok (.goto 7, 3) := by decide +kernel
theorem dX4_mantissa_29 : decode cX4_mantissa 29 = .ok (.lload 5, 2) := by decide +kernel
theorem dX4_mantissa_31 : decode cX4_mantissa 31 = .ok (.lload_n 3, 1) := by decide +kernel
theorem dX4_mantissa_32 : decode cX4_mantissa 32 = .ok (.lor, 1) := by decide +kernel
theorem dX4_mantissa_33 : decode cX4_mantissa 33 = .ok (.lreturn, 1) := by decide +kernel
set_option maxRecDepth 20000 in
theorem ggX4_exponent_X4_sizeOf : GoodIn wsX4_exponent wsX4_sizeOf := goodIn_r _ [8, 9, 10] (by decide +kernel) (by decide +kernel)
set_option maxRecDepth 20000 in
theorem gX4_exponent_X4_sizeOf : GoodIn wsX4_exponent (va_wsS RX4 7 yX4_sizeOf wsX4_sizeOf) := goodIn_app (goodIn_of _ (by decide +kernel)) ggX4_exponent_X4_sizeOf
set_option maxRecDepth 20000 in
theorem ggX4_exponent_X4_width : GoodIn wsX4_exponent wsX4_width := goodIn_r _ [13] (by decide +kernel) (by decide +kernel)
set_option maxRecDepth 20000 in
theorem gX4_exponent_X4_width : GoodIn wsX4_exponent (va_wsS RX4 74 yX4_width wsX4_width) := goodIn_app (goodIn_of _ (by decide +kernel)) ggX4_exponent_X4_width
set_option maxRecDepth 20000 in
theorem ggX4_exponent_X4_leastExponent : GoodIn wsX4_exponent wsX4_leastExponent := goodIn_r _ [16] (by decide +kernel) (by decide +kernel)
set_option maxRecDepth 20000 in
theorem gX4_exponent_X4_leastExponent : GoodIn wsX4_exponent (va_wsS RX4 70 yX4_leastExponent wsX4_leastExponent) := goodIn_app (goodIn_of _ (by decide +kernel)) ggX4_exponent_X4_leastExponent
theorem dX4_exponent_0 : decode cX4_exponent 0 = .ok (.iload_n 0, 1) := by decide +kernel
theorem dX4_exponent_1 : decode cX4_exponent 1 = .ok (.lload_n 1, 1) := by decide +kernel
theorem dX4_exponent_2 : decode cX4_exponent 2 = .ok (.invokestatic 7, 3) := by decide +kernel
theorem dX4_exponent_5 : decode cX4_exponent 5 = .ok (.iload_n 0, 1) := by decide +kernel
theorem dX4_exponent_6 : decode cX4_exponent 6 = .ok (.invokestatic 74, 3) := by decide +kernel
theorem dX4_exponent_9 : decode cX4_exponent 9 = .ok (.lushr, 1) := by decide +kernel
theorem dX4_exponent_10 : decode cX4_exponent 10 = .ok (.l2i, 1) := by decide +kernel
theorem dX4_exponent_11 : decode cX4_exponent 11 = .ok (.istore_n 3, 1) := by decide +kernel
theorem dX4_exponent_12 : decode cX4_exponent 12 = .ok (.iload_n 0, 1) := by decide +kernel
theorem dX4_exponent_13 : decode cX4_exponent 13 = .ok (.invokestatic 70, 3) := by decide +kernel
theorem dX4_exponent_16 : decode cX4_exponent 16 = .ok (.iconst 0, 1) := by decide +kernel
theorem dX4_exponent_17 : decode cX4_exponent 17 = .ok (.iload_n 3, 1) := by decide +kernel
theorem dX4_exponent_18 : decode cX4_exponent 18 = .ok (.iconst 1, 1) := by decide +kernel
theorem dX4_exponent_19 : decode cX4_exponent 19 = .ok (.isub, 1) := by decide +kernel
theorem dX4_exponent_20 : decode cX4_exponent 20 = .ok (.invokestatic 57, 3) := by decide +kernel
theorem dX4_exponent_23 : decode cX4_exponent 23 = .ok (.iadd, 1) := by decide +kernel
theorem dX4_exponent_24 : decode cX4_exponent 24 = .ok (.ireturn, 1) := by decide +kernel
theorem dX4_sizeOf_0 : decode cX4_sizeOf 0 = .ok (.lload_n 1, 1) := by decide +kernel
theorem dX4_sizeOf_1 : decode cX4_sizeOf 1 = .ok (.iload_n 0, 1) := by decide +kernel
theorem dX4_sizeOf_2 : decode cX4_sizeOf 2 = .ok (.ifCond .eq 9, 3) := by decide +kernel
theorem dX4_sizeOf_5 : decode cX4_sizeOf 5 = .ok (.ldc2_w 68, 3) := by decide +kernel
theorem dX4_sizeOf_8 : decode cX4_sizeOf 8 = .ok (.goto 6, 3) := by decide +kernel
theorem dX4_sizeOf_11 : decode cX4_sizeOf 11 = .ok (.ldc2_w 82, 3) := by decide +kernel
theorem dX4_sizeOf_14 : decode cX4_sizeOf 14 = .ok (.land, 1) := by decide +kernel
theorem dX4_sizeOf_15 : decode cX4_sizeOf 15 = .ok (.lreturn, 1) := by decide +kernel
theorem dX4_signed_0 : decode cX4_signed 0 = .ok (.iload_n 0, 1) := by decide +kernel
theorem dX4_signed_1 : decode cX4_signed 1 = .ok (.ifCond .eq 9, 3) := by decide +kernel
theorem dX4_signed_4 : decode cX4_signed 4 = .ok (.ldc2_w 19, 3) := by decide +kernel
theorem dX4_signed_7 : decode cX4_signed 7 = .ok (.goto 6, 3) := by decide +kernel
theorem dX4_signed_10 : decode cX4_signed 10 = .ok (.ldc2_w 84, 3) := by decide +kernel
theorem dX4_signed_13 : decode cX4_signed 13 = .ok (.lstore 4, 2) := by decide +kernel
theorem dX4_signed_15 : decode cX4_signed 15 = .ok (.iload_n 1, 1) := by decide +kernel
theorem dX4_signed_16 : decode cX4_signed 16 = .ok (.ifCond .eq 10, 3) := by decide +kernel
theorem dX4_signed_19 : decode cX4_signed 19 = .ok (.lload_n 2, 1) := by decide +kernel
theorem dX4_signed_20 : decode cX4_signed 20 = .ok (.lload 4, 2) := by decide +kernel
theorem dX4_signed_22 : decode cX4_signed 22 = .ok (.lor, 1) := by decide +kernel
theorem dX4_signed_23 : decode cX4_signed 23 = .ok (.goto 4, 3) := by decide +kernel
theorem dX4_signed_26 : decode cX4_signed 26 = .ok (.lload_n 2, 1) := by decide +kernel
theorem dX4_signed_27 : decode cX4_signed 27 = .ok (.lreturn, 1) := by decide +kernel
theorem dX4_endless_0 : decode cX4_endless 0 = .ok (.iload_n 0, 1) := by decide +kernel
theorem dX4_endless_1 : decode cX4_endless 1 = .ok (.ifCond .eq 9, 3) := by decide +kernel
theorem dX4_endless_4 : decode cX4_endless 4 = .ok (.ldc2_w 86, 3) := by decide +kernel
theorem dX4_endless_7 : decode cX4_endless 7 = .ok (.goto 6, 3) := by decide +kernel
theorem dX4_endless_10 : decode cX4_endless 10 = .ok (.ldc2_w 88, 3) := by decide +kernel
theorem dX4_endless_13 : decode cX4_endless 13 = .ok (.lreturn, 1) := by decide +kernel
theorem dX4_width_0 : decode cX4_width 0 = .ok (.iload_n 0, 1) := by decide +kernel
theorem dX4_width_1 : decode cX4_width 1 = .ok (.ifCond .eq 8, 3) := by decide +kernel
theorem dX4_width_4 : decode cX4_width 4 = .ok (.bipush 52, 2) := by decide +kernel
theorem dX4_width_6 : decode cX4_width 6 = .ok (.goto 5, 3) := by decide +kernel
theorem dX4_width_9 : decode cX4_width 9 = .ok (.bipush 23, 2) := by decide +kernel
theorem dX4_width_11 : decode cX4_width 11 = .ok (.ireturn, 1) := by decide +kernel
theorem dX4_leastExponent_0 : decode cX4_leastExponent 0 = .ok (.iload_n 0, 1) := by decide +kernel
theorem dX4_leastExponent_1 : decode cX4_leastExponent 1 = .ok (.ifCond .eq 9, 3) := by decide +kernel
theorem dX4_leastExponent_4 : decode cX4_leastExponent 4 = .ok (.sipush (-1074), 3) := by decide +kernel
theorem dX4_leastExponent_7 : decode cX4_leastExponent 7 = .ok (.goto 6, 3) := by decide +kernel
theorem dX4_leastExponent_10 : decode cX4_leastExponent 10 = .ok (.sipush (-149), 3) := by decide +kernel
theorem dX4_leastExponent_13 : decode cX4_leastExponent 13 = .ok (.ireturn, 1) := by decide +kernel
set_option maxRecDepth 20000 in
theorem ggX4_lengthOf_J13_numberOfLeadingZeros_95d88 : GoodIn wsX4_lengthOf wsJ13_numberOfLeadingZeros_95d88 := goodIn_r _ [4, 5, 6, 7, 8, 9] (by decide +kernel) (by decide +kernel)
set_option maxRecDepth 20000 in
theorem gX4_lengthOf_J13_numberOfLeadingZeros_95d88 : GoodIn wsX4_lengthOf (va_wsS RX4 54 yJ13_numberOfLeadingZeros_95d88 wsJ13_numberOfLeadingZeros_95d88) := goodIn_app (goodIn_of _ (by decide +kernel)) ggX4_lengthOf_J13_numberOfLeadingZeros_95d88
theorem dX4_lengthOf_0 : decode cX4_lengthOf 0 = .ok (.bipush 64, 2) := by decide +kernel
theorem dX4_lengthOf_2 : decode cX4_lengthOf 2 = .ok (.lload_n 0, 1) := by decide +kernel
theorem dX4_lengthOf_3 : decode cX4_lengthOf 3 = .ok (.invokestatic 54, 3) := by decide +kernel
theorem dX4_lengthOf_6 : decode cX4_lengthOf 6 = .ok (.isub, 1) := by decide +kernel
theorem dX4_lengthOf_7 : decode cX4_lengthOf 7 = .ok (.ireturn, 1) := by decide +kernel
theorem dX5_init_0 : decode cX5_init 0 = .ok (.aload_n 0, 1) := by decide +kernel
theorem dX5_init_1 : decode cX5_init 1 = .ok (.invokespecial 3, 3) := by decide +kernel
theorem dX5_init_4 : decode cX5_init 4 = .ok (.aload_n 0, 1) := by decide +kernel
theorem dX5_init_5 : decode cX5_init 5 = .ok (.bipush 16, 2) := by decide +kernel
theorem dX5_init_7 : decode cX5_init 7 = .ok (.newarray .long, 2) := by decide +kernel
theorem dX5_init_9 : decode cX5_init 9 = .ok (.putfield 9, 3) := by decide +kernel
theorem dX5_init_12 : decode cX5_init 12 = .ok (.aload_n 0, 1) := by decide +kernel
theorem dX5_init_13 : decode cX5_init 13 = .ok (.iconst (-1), 1) := by decide +kernel
theorem dX5_init_14 : decode cX5_init 14 = .ok (.putfield 15, 3) := by decide +kernel
theorem dX5_init_17 : decode cX5_init 17 = .ok (.return_, 1) := by decide +kernel
theorem dX5_renew_0 : decode cX5_renew 0 = .ok (.iconst 0, 1) := by decide +kernel
theorem dX5_renew_1 : decode cX5_renew 1 = .ok (.istore_n 2, 1) := by decide +kernel
theorem dX5_renew_2 : decode cX5_renew 2 = .ok (.iload_n 2, 1) := by decide +kernel
theorem dX5_renew_3 : decode cX5_renew 3 = .ok (.aload_n 0, 1) := by decide +kernel
theorem dX5_renew_4 : decode cX5_renew 4 = .ok (.getfield 9, 3) := by decide +kernel
theorem dX5_renew_7 : decode cX5_renew 7 = .ok (.arraylength, 1) := by decide +kernel
theorem dX5_renew_8 : decode cX5_renew 8 = .ok (.if_icmp .ge 16, 3) := by decide +kernel
theorem dX5_renew_11 : decode cX5_renew 11 = .ok (.aload_n 0, 1) := by decide +kernel
theorem dX5_renew_12 : decode cX5_renew 12 = .ok (.getfield 9, 3) := by decide +kernel
theorem dX5_renew_15 : decode cX5_renew 15 = .ok (.iload_n 2, 1) := by decide +kernel
theorem dX5_renew_16 : decode cX5_renew 16 = .ok (.lconst 0, 1) := by decide +kernel
theorem dX5_renew_17 : decode cX5_renew 17 = .ok (.lastore, 1) := by decide +kernel
theorem dX5_renew_18 : decode cX5_renew 18 = .ok (.iinc 2 1, 3) := by decide +kernel
theorem dX5_renew_21 : decode cX5_renew 21 = .ok (.goto (-19), 3) := by decide +kernel
theorem dX5_renew_24 : decode cX5_renew 24 = .ok (.aload_n 0, 1) := by decide +kernel
theorem dX5_renew_25 : decode cX5_renew 25 = .ok (.iload_n 1, 1) := by decide +kernel
theorem dX5_renew_26 : decode cX5_renew 26 = .ok (.putfield 15, 3) := by decide +kernel
theorem dX5_renew_29 : decode cX5_renew 29 = .ok (.return_, 1) := by decide +kernel
theorem dX5_isMissing_0 : decode cX5_isMissing 0 = .ok (.aload_n 0, 1) := by decide +kernel
theorem dX5_isMissing_1 : decode cX5_isMissing 1 = .ok (.getfield 15, 3) := by decide +kernel
theorem dX5_isMissing_4 : decode cX5_isMissing 4 = .ok (.iconst (-1), 1) := by decide +kernel
theorem dX5_isMissing_5 : decode cX5_isMissing 5 = .ok (.if_icmp .ne 7, 3) := by decide +kernel
theorem dX5_isMissing_8 : decode cX5_isMissing 8 = .ok (.iconst 1, 1) := by decide +kernel
theorem dX5_isMissing_9 : decode cX5_isMissing 9 = .ok (.goto 4, 3) := by decide +kernel
theorem dX5_isMissing_12 : decode cX5_isMissing 12 = .ok (.iconst 0, 1) := by decide +kernel
theorem dX5_isMissing_13 : decode cX5_isMissing 13 = .ok (.ireturn, 1) := by decide +kernel
set_option maxRecDepth 20000 in
theorem ggX5_failureAt_X5_isMissing : GoodIn wsX5_failureAt wsX5_isMissing := goodIn_r _ [6, 1, 7, 8] (by decide +kernel) (by decide +kernel)
set_option maxRecDepth 20000 in
theorem gX5_failureAt_X5_isMissing : GoodIn wsX5_failureAt (wsV RX5 19 RX5 yX5_isMissing wsX5_isMissing) := goodIn_app (goodIn_of _ (by decide +kernel)) ggX5_failureAt_X5_isMissing
theorem dX5_failureAt_0 : decode cX5_failureAt 0 = .ok (.aload_n 0, 1) := by decide +kernel
theorem dX5_failureAt_1 : decode cX5_failureAt 1 = .ok (.invokevirtual 19, 3) := by decide +kernel
theorem dX5_failureAt_4 : decode cX5_failureAt 4 = .ok (.ifCond .eq 6, 3) := by decide +kernel
theorem dX5_failureAt_7 : decode cX5_failureAt 7 = .ok (.bipush (-11), 2) := by decide +kernel
theorem dX5_failureAt_9 : decode cX5_failureAt 9 = .ok (.ireturn, 1) := by decide +kernel
theorem dX5_failureAt_10 : decode cX5_failureAt 10 = .ok (.iload_n 1, 1) := by decide +kernel
theorem dX5_failureAt_11 : decode cX5_failureAt 11 = .ok (.ifCond .lt 15, 3) := by decide +kernel
theorem dX5_failureAt_14 : decode cX5_failureAt 14 = .ok (.iload_n 1, 1) := by decide +kernel
theorem dX5_failureAt_15 : decode cX5_failureAt 15 = .ok (.aload_n 0, 1) := by decide +kernel
theorem dX5_failureAt_16 : decode cX5_failureAt 16 = .ok (.getfield 15, 3) := by decide +kernel
theorem dX5_failureAt_19 : decode cX5_failureAt 19 = .ok (.if_icmp .ge 7, 3) := by decide +kernel
theorem dX5_failureAt_22 : decode cX5_failureAt 22 = .ok (.iconst 0, 1) := by decide +kernel
theorem dX5_failureAt_23 : decode cX5_failureAt 23 = .ok (.goto 5, 3) := by decide +kernel
theorem dX5_failureAt_26 : decode cX5_failureAt 26 = .ok (.bipush (-12), 2) := by decide +kernel
theorem dX5_failureAt_28 : decode cX5_failureAt 28 = .ok (.ireturn, 1) := by decide +kernel
set_option maxRecDepth 20000 in
theorem ggX6_init_X2_init : GoodIn wsX6_init wsX2_init := goodIn_r _ [4, 5, 6, 7, 8, 9, 10, 11, 12, 13, 14, 15, 16, 17, 18, 19, 20, 21] (by decide +kernel) (by decide +kernel)
set_option maxRecDepth 20000 in
theorem gX6_init_X2_init : GoodIn wsX6_init (wsX2_init) := ggX6_init_X2_init
theorem dX6_init_0 : decode cX6_init 0 = .ok (.aload_n 0, 1) := by decide +kernel
theorem dX6_init_1 : decode cX6_init 1 = .ok (.iload_n 1, 1) := by decide +kernel
theorem dX6_init_2 : decode cX6_init 2 = .ok (.lload_n 2, 1) := by decide +kernel
theorem dX6_init_3 : decode cX6_init 3 = .ok (.invokespecial 1, 3) := by decide +kernel
theorem dX6_init_6 : decode cX6_init 6 = .ok (.return_, 1) := by decide +kernel
set_option maxRecDepth 20000 in
theorem ggX6_forceAt_X4_negated : GoodIn wsX6_forceAt wsX4_negated := goodIn_r _ [6, 7] (by decide +kernel) (by decide +kernel)
set_option maxRecDepth 20000 in
theorem gX6_forceAt_X4_negated : GoodIn wsX6_forceAt (va_wsS RX6 13 yX4_negated wsX4_negated) := goodIn_app (goodIn_of _ (by decide +kernel)) ggX6_forceAt_X4_negated
set_option maxRecDepth 20000 in
theorem ggX6_forceAt_X4_sum : GoodIn wsX6_forceAt wsX4_sum := goodIn_r _ [10, 11, 12, 5, 13, 14, 15, 16, 17, 18, 19, 20, 21, 22, 23, 24, 25, 26, 27, 28, 29, 30, 31, 32, 33, 34, 35, 36, 37, 38, 39, 40, 41, 42, 43, 7, 44, 45, 46, 47, 48, 49, 50, 51, 52, 53, 54, 55, 56, 57, 58, 59, 60, 61, 62, 63, 64] (by decide +kernel) (by decide +kernel)
set_option maxRecDepth 20000 in
theorem gX6_forceAt_X4_sum : GoodIn wsX6_forceAt (va_wsS RX6 19 yX4_sum wsX4_sum) := goodIn_app (goodIn_of _ (by decide +kernel)) ggX6_forceAt_X4_sum
theorem dX6_forceAt_0 : decode cX6_forceAt 0 = .ok (.iconst 1, 1) := by decide +kernel
theorem dX6_forceAt_1 : decode cX6_forceAt 1 = .ok (.aload_n 0, 1) := by decide +kernel
theorem dX6_forceAt_2 : decode cX6_forceAt 2 = .ok (.getfield 7, 3) := by decide +kernel
theorem dX6_forceAt_5 : decode cX6_forceAt 5 = .ok (.lload_n 1, 1) := by decide +kernel
theorem dX6_forceAt_6 : decode cX6_forceAt 6 = .ok (.invokestatic 13, 3) := by decide +kernel
theorem dX6_forceAt_9 : decode cX6_forceAt 9 = .ok (.invokestatic 19, 3) := by decide +kernel
theorem dX6_forceAt_12 : decode cX6_forceAt 12 = .ok (.lreturn, 1) := by decide +kernel
theorem dJxe99ae_isNaN_b9ae7_0 : decode cJxe99ae_isNaN_b9ae7 0 = .ok (.dload_n 0, 1) := by decide +kernel
theorem dJxe99ae_isNaN_b9ae7_1 : decode cJxe99ae_isNaN_b9ae7 1 = .ok (.dload_n 0, 1) := by decide +kernel
theorem dJxe99ae_isNaN_b9ae7_2 : decode cJxe99ae_isNaN_b9ae7 2 = .ok (.dcmp .l, 1) := by decide +kernel
theorem dJxe99ae_isNaN_b9ae7_3 : decode cJxe99ae_isNaN_b9ae7 3 = .ok (.ifCond .eq 7, 3) := by decide +kernel
theorem dJxe99ae_isNaN_b9ae7_6 : decode cJxe99ae_isNaN_b9ae7 6 = .ok (.iconst 1, 1) := by decide +kernel
theorem dJxe99ae_isNaN_b9ae7_7 : decode cJxe99ae_isNaN_b9ae7 7 = .ok (.goto 4, 3) := by decide +kernel
theorem dJxe99ae_isNaN_b9ae7_10 : decode cJxe99ae_isNaN_b9ae7 10 = .ok (.iconst 0, 1) := by decide +kernel
theorem dJxe99ae_isNaN_b9ae7_11 : decode cJxe99ae_isNaN_b9ae7 11 = .ok (.ireturn, 1) := by decide +kernel
set_option maxRecDepth 20000 in
theorem ggJxe99ae_doubleToLongBits_ccdee_Jxe99ae_isNaN_b9ae7 : GoodIn wsJxe99ae_doubleToLongBits_ccdee wsJxe99ae_isNaN_b9ae7 := goodIn_r _ [9] (by decide +kernel) (by decide +kernel)
set_option maxRecDepth 20000 in
theorem gJxe99ae_doubleToLongBits_ccdee_Jxe99ae_isNaN_b9ae7 : GoodIn wsJxe99ae_doubleToLongBits_ccdee (va_wsS RJxe99ae 122 yJxe99ae_isNaN_b9ae7 wsJxe99ae_isNaN_b9ae7) := goodIn_app (goodIn_of _ (by decide +kernel)) ggJxe99ae_doubleToLongBits_ccdee_Jxe99ae_isNaN_b9ae7
theorem dJxe99ae_doubleToLongBits_ccdee_0 : decode cJxe99ae_doubleToLongBits_ccdee 0 = .ok (.dload_n 0, 1) := by decide +kernel
theorem dJxe99ae_doubleToLongBits_ccdee_1 : decode cJxe99ae_doubleToLongBits_ccdee 1 = .ok (.invokestatic 122, 3) := by decide +kernel
theorem dJxe99ae_doubleToLongBits_ccdee_4 : decode cJxe99ae_doubleToLongBits_ccdee 4 = .ok (.ifCond .ne 8, 3) := by decide +kernel
theorem dJxe99ae_doubleToLongBits_ccdee_7 : decode cJxe99ae_doubleToLongBits_ccdee 7 = .ok (.dload_n 0, 1) := by decide +kernel
theorem dJxe99ae_doubleToLongBits_ccdee_8 : decode cJxe99ae_doubleToLongBits_ccdee 8 = .ok (.invokestatic 134, 3) := by decide +kernel
theorem dJxe99ae_doubleToLongBits_ccdee_11 : decode cJxe99ae_doubleToLongBits_ccdee 11 = .ok (.lreturn, 1) := by decide +kernel
theorem dJxe99ae_doubleToLongBits_ccdee_12 : decode cJxe99ae_doubleToLongBits_ccdee 12 = .ok (.ldc2_w 137, 3) := by decide +kernel
theorem dJxe99ae_doubleToLongBits_ccdee_15 : decode cJxe99ae_doubleToLongBits_ccdee 15 = .ok (.lreturn, 1) := by decide +kernel
theorem dJxf58ca_isNaN_12338_0 : decode cJxf58ca_isNaN_12338 0 = .ok (.fload_n 0, 1) := by decide +kernel
theorem dJxf58ca_isNaN_12338_1 : decode cJxf58ca_isNaN_12338 1 = .ok (.fload_n 0, 1) := by decide +kernel
theorem dJxf58ca_isNaN_12338_2 : decode cJxf58ca_isNaN_12338 2 = .ok (.fcmp .l, 1) := by decide +kernel
theorem dJxf58ca_isNaN_12338_3 : decode cJxf58ca_isNaN_12338 3 = .ok (.ifCond .eq 7, 3) := by decide +kernel
theorem dJxf58ca_isNaN_12338_6 : decode cJxf58ca_isNaN_12338 6 = .ok (.iconst 1, 1) := by decide +kernel
theorem dJxf58ca_isNaN_12338_7 : decode cJxf58ca_isNaN_12338 7 = .ok (.goto 4, 3) := by decide +kernel
theorem dJxf58ca_isNaN_12338_10 : decode cJxf58ca_isNaN_12338 10 = .ok (.iconst 0, 1) := by decide +kernel
theorem dJxf58ca_isNaN_12338_11 : decode cJxf58ca_isNaN_12338 11 = .ok (.ireturn, 1) := by decide +kernel
set_option maxRecDepth 20000 in
theorem ggJxf58ca_floatToIntBits_5c35a_Jxf58ca_isNaN_12338 : GoodIn wsJxf58ca_floatToIntBits_5c35a wsJxf58ca_isNaN_12338 := goodIn_r _ [9] (by decide +kernel) (by decide +kernel)
set_option maxRecDepth 20000 in
theorem gJxf58ca_floatToIntBits_5c35a_Jxf58ca_isNaN_12338 : GoodIn wsJxf58ca_floatToIntBits_5c35a (va_wsS RJxf58ca 59 yJxf58ca_isNaN_12338 wsJxf58ca_isNaN_12338) := goodIn_app (goodIn_of _ (by decide +kernel)) ggJxf58ca_floatToIntBits_5c35a_Jxf58ca_isNaN_12338
theorem dJxf58ca_floatToIntBits_5c35a_0 : decode cJxf58ca_floatToIntBits_5c35a 0 = .ok (.fload_n 0, 1) := by decide +kernel
theorem dJxf58ca_floatToIntBits_5c35a_1 : decode cJxf58ca_floatToIntBits_5c35a 1 = .ok (.invokestatic 59, 3) := by decide +kernel
theorem dJxf58ca_floatToIntBits_5c35a_4 : decode cJxf58ca_floatToIntBits_5c35a 4 = .ok (.ifCond .ne 8, 3) := by decide +kernel
theorem dJxf58ca_floatToIntBits_5c35a_7 : decode cJxf58ca_floatToIntBits_5c35a 7 = .ok (.fload_n 0, 1) := by decide +kernel
theorem dJxf58ca_floatToIntBits_5c35a_8 : decode cJxf58ca_floatToIntBits_5c35a 8 = .ok (.invokestatic 74, 3) := by decide +kernel
theorem dJxf58ca_floatToIntBits_5c35a_11 : decode cJxf58ca_floatToIntBits_5c35a 11 = .ok (.ireturn, 1) := by decide +kernel
theorem dJxf58ca_floatToIntBits_5c35a_12 : decode cJxf58ca_floatToIntBits_5c35a 12 = .ok (.ldc 77, 2) := by decide +kernel
theorem dJxf58ca_floatToIntBits_5c35a_14 : decode cJxf58ca_floatToIntBits_5c35a 14 = .ok (.ireturn, 1) := by decide +kernel
theorem dJ6_numberOfLeadingZeros_0f7a4_0 : decode cJ6_numberOfLeadingZeros_0f7a4 0 = .ok (.iload_n 0, 1) := by decide +kernel
theorem dJ6_numberOfLeadingZeros_0f7a4_1 : decode cJ6_numberOfLeadingZeros_0f7a4 1 = .ok (.ifCond .gt 14, 3) := by decide +kernel
theorem dJ6_numberOfLeadingZeros_0f7a4_4 : decode cJ6_numberOfLeadingZeros_0f7a4 4 = .ok (.iload_n 0, 1) := by decide +kernel
theorem dJ6_numberOfLeadingZeros_0f7a4_5 : decode cJ6_numberOfLeadingZeros_0f7a4 5 = .ok (.ifCond .ne 8, 3) := by decide +kernel
theorem dJ6_numberOfLeadingZeros_0f7a4_8 : decode cJ6_numberOfLeadingZeros_0f7a4 8 = .ok (.bipush 32, 2) := by decide +kernel
theorem dJ6_numberOfLeadingZeros_0f7a4_10 : decode cJ6_numberOfLeadingZeros_0f7a4 10 = .ok (.goto 4, 3) := by decide +kernel
theorem dJ6_numberOfLeadingZeros_0f7a4_13 : decode cJ6_numberOfLeadingZeros_0f7a4 13 = .ok (.iconst 0, 1) := by decide +kernel
theorem dJ6_numberOfLeadingZeros_0f7a4_14 : decode cJ6_numberOfLeadingZeros_0f7a4 14 = .ok (.ireturn, 1) := by decide +kernel
theorem dJ6_numberOfLeadingZeros_0f7a4_15 : decode cJ6_numberOfLeadingZeros_0f7a4 15 = .ok (.bipush 31, 2) := by decide +kernel
theorem dJ6_numberOfLeadingZeros_0f7a4_17 : decode cJ6_numberOfLeadingZeros_0f7a4 17 = .ok (.istore_n 1, 1) := by decide +kernel
theorem dJ6_numberOfLeadingZeros_0f7a4_18 : decode cJ6_numberOfLeadingZeros_0f7a4 18 = .ok (.iload_n 0, 1) := by decide +kernel
theorem dJ6_numberOfLeadingZeros_0f7a4_19 : decode cJ6_numberOfLeadingZeros_0f7a4 19 = .ok (.ldc_w 264, 3) := by decide +kernel
theorem dJ6_numberOfLeadingZeros_0f7a4_22 : decode cJ6_numberOfLeadingZeros_0f7a4 22 = .ok (.if_icmp .lt 11, 3) := by decide +kernel
theorem dJ6_numberOfLeadingZeros_0f7a4_25 : decode cJ6_numberOfLeadingZeros_0f7a4 25 = .ok (.iinc 1 (-16), 3) := by decide +kernel
theorem dJ6_numberOfLeadingZeros_0f7a4_28 : decode cJ6_numberOfLeadingZeros_0f7a4 28 = .ok (.iload_n 0, 1) := by decide +kernel
theorem dJ6_numberOfLeadingZeros_0f7a4_29 : decode cJ6_numberOfLeadingZeros_0f7a4 29 = .ok (.bipush 16, 2) := by decide +kernel
theorem dJ6_numberOfLeadingZeros_0f7a4_31 : decode cJ6_numberOfLeadingZeros_0f7a4 31 = .ok (.iushr, 1) := by decide +kernel
theorem dJ6_numberOfLeadingZeros_0f7a4_32 : decode cJ6_numberOfLeadingZeros_0f7a4 32 = .ok (.istore_n 0, 1) := by decide +kernel
theorem dJ6_numberOfLeadingZeros_0f7a4_33 : decode cJ6_numberOfLeadingZeros_0f7a4 33 = .ok (.iload_n 0, 1) := by decide +kernel
theorem dJ6_numberOfLeadingZeros_0f7a4_34 : decode cJ6_numberOfLeadingZeros_0f7a4 34 = .ok (.sipush 256, 3) := by decide +kernel
theorem dJ6_numberOfLeadingZeros_0f7a4_37 : decode cJ6_numberOfLeadingZeros_0f7a4 37 = .ok (.if_icmp .lt 11, 3) := by decide +kernel
theorem dJ6_numberOfLeadingZeros_0f7a4_40 : decode cJ6_numberOfLeadingZeros_0f7a4 40 = .ok (.iinc 1 (-8), 3) := by decide +kernel
theorem dJ6_numberOfLeadingZeros_0f7a4_43 : decode cJ6_numberOfLeadingZeros_0f7a4 43 = .ok (.iload_n 0, 1) := by decide +kernel
theorem dJ6_numberOfLeadingZeros_0f7a4_44 : decode cJ6_numberOfLeadingZeros_0f7a4 44 = .ok (.bipush 8, 2) := by decide +kernel
theorem dJ6_numberOfLeadingZeros_0f7a4_46 : decode cJ6_numberOfLeadingZeros_0f7a4 46 = .ok (.iushr, 1) := by decide +kernel
theorem dJ6_numberOfLeadingZeros_0f7a4_47 : decode cJ6_numberOfLeadingZeros_0f7a4 47 = .ok (.istore_n 0, 1) := by decide +kernel
theorem dJ6_numberOfLeadingZeros_0f7a4_48 : decode cJ6_numberOfLeadingZeros_0f7a4 48 = .ok (.iload_n 0, 1) := by decide +kernel
theorem dJ6_numberOfLeadingZeros_0f7a4_49 : decode cJ6_numberOfLeadingZeros_0f7a4 49 = .ok (.bipush 16, 2) := by decide +kernel
theorem dJ6_numberOfLeadingZeros_0f7a4_51 : decode cJ6_numberOfLeadingZeros_0f7a4 51 = .ok (.if_icmp .lt 10, 3) := by decide +kernel
theorem dJ6_numberOfLeadingZeros_0f7a4_54 : decode cJ6_numberOfLeadingZeros_0f7a4 54 = .ok (.iinc 1 (-4), 3) := by decide +kernel
theorem dJ6_numberOfLeadingZeros_0f7a4_57 : decode cJ6_numberOfLeadingZeros_0f7a4 57 = .ok (.iload_n 0, 1) := by decide +kernel
theorem dJ6_numberOfLeadingZeros_0f7a4_58 : decode cJ6_numberOfLeadingZeros_0f7a4 58 = .ok (.iconst 4, 1) := by decide +kernel
theorem dJ6_numberOfLeadingZeros_0f7a4_59 : decode cJ6_numberOfLeadingZeros_0f7a4 59 = .ok (.iushr, 1) := by decide +kernel
theorem dJ6_numberOfLeadingZeros_0f7a4_60 : decode cJ6_numberOfLeadingZeros_0f7a4 60 = .ok (.istore_n 0, 1) := by decide +kernel
theorem dJ6_numberOfLeadingZeros_0f7a4_61 : decode cJ6_numberOfLeadingZeros_0f7a4 61 = .ok (.iload_n 0, 1) := by decide +kernel
theorem dJ6_numberOfLeadingZeros_0f7a4_62 : decode cJ6_numberOfLeadingZeros_0f7a4 62 = .ok (.iconst 4, 1) := by decide +kernel
theorem dJ6_numberOfLeadingZeros_0f7a4_63 : decode cJ6_numberOfLeadingZeros_0f7a4 63 = .ok (.if_icmp .lt 10, 3) := by decide +kernel
theorem dJ6_numberOfLeadingZeros_0f7a4_66 : decode cJ6_numberOfLeadingZeros_0f7a4 66 = .ok (.iinc 1 (-2), 3) := by decide +kernel
theorem dJ6_numberOfLeadingZeros_0f7a4_69 : decode cJ6_numberOfLeadingZeros_0f7a4 69 = .ok (.iload_n 0, 1) := by decide +kernel
theorem dJ6_numberOfLeadingZeros_0f7a4_70 : decode cJ6_numberOfLeadingZeros_0f7a4 70 = .ok (.iconst 2, 1) := by decide +kernel
theorem dJ6_numberOfLeadingZeros_0f7a4_71 : decode cJ6_numberOfLeadingZeros_0f7a4 71 = .ok (.iushr, 1) := by decide +kernel
theorem dJ6_numberOfLeadingZeros_0f7a4_72 : decode cJ6_numberOfLeadingZeros_0f7a4 72 = .ok (.istore_n 0, 1) := by decide +kernel
theorem dJ6_numberOfLeadingZeros_0f7a4_73 : decode cJ6_numberOfLeadingZeros_0f7a4 73 = .ok (.iload_n 1, 1) := by decide +kernel
theorem dJ6_numberOfLeadingZeros_0f7a4_74 : decode cJ6_numberOfLeadingZeros_0f7a4 74 = .ok (.iload_n 0, 1) := by decide +kernel
theorem dJ6_numberOfLeadingZeros_0f7a4_75 : decode cJ6_numberOfLeadingZeros_0f7a4 75 = .ok (.iconst 1, 1) := by decide +kernel
theorem dJ6_numberOfLeadingZeros_0f7a4_76 : decode cJ6_numberOfLeadingZeros_0f7a4 76 = .ok (.iushr, 1) := by decide +kernel
theorem dJ6_numberOfLeadingZeros_0f7a4_77 : decode cJ6_numberOfLeadingZeros_0f7a4 77 = .ok (.isub, 1) := by decide +kernel
theorem dJ6_numberOfLeadingZeros_0f7a4_78 : decode cJ6_numberOfLeadingZeros_0f7a4 78 = .ok (.ireturn, 1) := by decide +kernel
set_option maxRecDepth 20000 in
theorem ggJ13_numberOfLeadingZeros_95d88_J6_numberOfLeadingZeros_0f7a4 : GoodIn wsJ13_numberOfLeadingZeros_95d88 wsJ6_numberOfLeadingZeros_0f7a4 := goodIn_r _ [4, 5] (by decide +kernel) (by decide +kernel)
set_option maxRecDepth 20000 in
theorem gJ13_numberOfLeadingZeros_95d88_J6_numberOfLeadingZeros_0f7a4 : GoodIn wsJ13_numberOfLeadingZeros_95d88 (va_wsS RJ13 308 yJ6_numberOfLeadingZeros_0f7a4 wsJ6_numberOfLeadingZeros_0f7a4) := goodIn_app (goodIn_of _ (by decide +kernel)) ggJ13_numberOfLeadingZeros_95d88_J6_numberOfLeadingZeros_0f7a4
theorem dJ13_numberOfLeadingZeros_95d88_0 : decode cJ13_numberOfLeadingZeros_95d88 0 = .ok (.lload_n 0, 1) := by decide +kernel
theorem dJ13_numberOfLeadingZeros_95d88_1 : decode cJ13_numberOfLeadingZeros_95d88 1 = .ok (.bipush 32, 2) := by decide +kernel
theorem dJ13_numberOfLeadingZeros_95d88_3 : decode cJ13_numberOfLeadingZeros_95d88 3 = .ok (.lushr, 1) := by decide +kernel
theorem dJ13_numberOfLeadingZeros_95d88_4 : decode cJ13_numberOfLeadingZeros_95d88 4 = .ok (.l2i, 1) := by decide +kernel
theorem dJ13_numberOfLeadingZeros_95d88_5 : decode cJ13_numberOfLeadingZeros_95d88 5 = .ok (.istore_n 2, 1) := by decide +kernel
theorem dJ13_numberOfLeadingZeros_95d88_6 : decode cJ13_numberOfLeadingZeros_95d88 6 = .ok (.iload_n 2, 1) := by decide +kernel
theorem dJ13_numberOfLeadingZeros_95d88_7 : decode cJ13_numberOfLeadingZeros_95d88 7 = .ok (.ifCond .ne 14, 3) := by decide +kernel
theorem dJ13_numberOfLeadingZeros_95d88_10 : decode cJ13_numberOfLeadingZeros_95d88 10 = .ok (.bipush 32, 2) := by decide +kernel
theorem dJ13_numberOfLeadingZeros_95d88_12 : decode cJ13_numberOfLeadingZeros_95d88 12 = .ok (.lload_n 0, 1) := by decide +kernel
theorem dJ13_numberOfLeadingZeros_95d88_13 : decode cJ13_numberOfLeadingZeros_95d88 13 = .ok (.l2i, 1) := by decide +kernel
theorem dJ13_numberOfLeadingZeros_95d88_14 : decode cJ13_numberOfLeadingZeros_95d88 14 = .ok (.invokestatic 308, 3) := by decide +kernel
theorem dJ13_numberOfLeadingZeros_95d88_17 : decode cJ13_numberOfLeadingZeros_95d88 17 = .ok (.iadd, 1) := by decide +kernel
theorem dJ13_numberOfLeadingZeros_95d88_18 : decode cJ13_numberOfLeadingZeros_95d88 18 = .ok (.goto 7, 3) := by decide +kernel
theorem dJ13_numberOfLeadingZeros_95d88_21 : decode cJ13_numberOfLeadingZeros_95d88 21 = .ok (.iload_n 2, 1) := by decide +kernel
theorem dJ13_numberOfLeadingZeros_95d88_22 : decode cJ13_numberOfLeadingZeros_95d88 22 = .ok (.invokestatic 308, 3) := by decide +kernel
theorem dJ13_numberOfLeadingZeros_95d88_25 : decode cJ13_numberOfLeadingZeros_95d88 25 = .ok (.ireturn, 1) := by decide +kernel
theorem dJ9_abs_067f4_0 : decode cJ9_abs_067f4 0 = .ok (.lload_n 0, 1) := by decide +kernel
theorem dJ9_abs_067f4_1 : decode cJ9_abs_067f4 1 = .ok (.lconst 0, 1) := by decide +kernel
theorem dJ9_abs_067f4_2 : decode cJ9_abs_067f4 2 = .ok (.lcmp, 1) := by decide +kernel
theorem dJ9_abs_067f4_3 : decode cJ9_abs_067f4 3 = .ok (.ifCond .ge 8, 3) := by decide +kernel
theorem dJ9_abs_067f4_6 : decode cJ9_abs_067f4 6 = .ok (.lload_n 0, 1) := by decide +kernel
theorem dJ9_abs_067f4_7 : decode cJ9_abs_067f4 7 = .ok (.lneg, 1) := by decide +kernel
theorem dJ9_abs_067f4_8 : decode cJ9_abs_067f4 8 = .ok (.goto 4, 3) := by decide +kernel
theorem dJ9_abs_067f4_11 : decode cJ9_abs_067f4 11 = .ok (.lload_n 0, 1) := by decide +kernel
theorem dJ9_abs_067f4_12 : decode cJ9_abs_067f4 12 = .ok (.lreturn, 1) := by decide +kernel
theorem dJ9_max_7cf53_0 : decode cJ9_max_7cf53 0 = .ok (.iload_n 0, 1) := by decide +kernel
theorem dJ9_max_7cf53_1 : decode cJ9_max_7cf53 1 = .ok (.iload_n 1, 1) := by decide +kernel
theorem dJ9_max_7cf53_2 : decode cJ9_max_7cf53 2 = .ok (.if_icmp .lt 7, 3) := by decide +kernel
theorem dJ9_max_7cf53_5 : decode cJ9_max_7cf53 5 = .ok (.iload_n 0, 1) := by decide +kernel
theorem dJ9_max_7cf53_6 : decode cJ9_max_7cf53 6 = .ok (.goto 4, 3) := by decide +kernel
theorem dJ9_max_7cf53_9 : decode cJ9_max_7cf53 9 = .ok (.iload_n 1, 1) := by decide +kernel
theorem dJ9_max_7cf53_10 : decode cJ9_max_7cf53 10 = .ok (.ireturn, 1) := by decide +kernel
theorem dJ9_max_f86c9_0 : decode cJ9_max_f86c9 0 = .ok (.lload_n 0, 1) := by decide +kernel
theorem dJ9_max_f86c9_1 : decode cJ9_max_f86c9 1 = .ok (.lload_n 2, 1) := by decide +kernel
theorem dJ9_max_f86c9_2 : decode cJ9_max_f86c9 2 = .ok (.lcmp, 1) := by decide +kernel
theorem dJ9_max_f86c9_3 : decode cJ9_max_f86c9 3 = .ok (.ifCond .lt 7, 3) := by decide +kernel
theorem dJ9_max_f86c9_6 : decode cJ9_max_f86c9 6 = .ok (.lload_n 0, 1) := by decide +kernel
theorem dJ9_max_f86c9_7 : decode cJ9_max_f86c9 7 = .ok (.goto 4, 3) := by decide +kernel
theorem dJ9_max_f86c9_10 : decode cJ9_max_f86c9 10 = .ok (.lload_n 2, 1) := by decide +kernel
theorem dJ9_max_f86c9_11 : decode cJ9_max_f86c9 11 = .ok (.lreturn, 1) := by decide +kernel
theorem dJ9_min_7cf53_0 : decode cJ9_min_7cf53 0 = .ok (.iload_n 0, 1) := by decide +kernel
theorem dJ9_min_7cf53_1 : decode cJ9_min_7cf53 1 = .ok (.iload_n 1, 1) := by decide +kernel
theorem dJ9_min_7cf53_2 : decode cJ9_min_7cf53 2 = .ok (.if_icmp .gt 7, 3) := by decide +kernel
theorem dJ9_min_7cf53_5 : decode cJ9_min_7cf53 5 = .ok (.iload_n 0, 1) := by decide +kernel
theorem dJ9_min_7cf53_6 : decode cJ9_min_7cf53 6 = .ok (.goto 4, 3) := by decide +kernel
theorem dJ9_min_7cf53_9 : decode cJ9_min_7cf53 9 = .ok (.iload_n 1, 1) := by decide +kernel
theorem dJ9_min_7cf53_10 : decode cJ9_min_7cf53 10 = .ok (.ireturn, 1) := by decide +kernel
theorem dJ9_min_f86c9_0 : decode cJ9_min_f86c9 0 = .ok (.lload_n 0, 1) := by decide +kernel
theorem dJ9_min_f86c9_1 : decode cJ9_min_f86c9 1 = .ok (.lload_n 2, 1) := by decide +kernel
theorem dJ9_min_f86c9_2 : decode cJ9_min_f86c9 2 = .ok (.lcmp, 1) := by decide +kernel
theorem dJ9_min_f86c9_3 : decode cJ9_min_f86c9 3 = .ok (.ifCond .gt 7, 3) := by decide +kernel
theorem dJ9_min_f86c9_6 : decode cJ9_min_f86c9 6 = .ok (.lload_n 0, 1) := by decide +kernel
theorem dJ9_min_f86c9_7 : decode cJ9_min_f86c9 7 = .ok (.goto 4, 3) := by decide +kernel
theorem dJ9_min_f86c9_10 : decode cJ9_min_f86c9 10 = .ok (.lload_n 2, 1) := by decide +kernel
theorem dJ9_min_f86c9_11 : decode cJ9_min_f86c9 11 = .ok (.lreturn, 1) := by decide +kernel
end
section
/-! joins: a value that two roads bring to one place gets a name; loops by a number that falls -/
theorem jn_i {p : Program} {l : Launch} {e : Env} {R : Room} {s : State} {m : MethodId} {args : Array Value} {below : List Frame} {meth : Method} {c : Code} {H : Heap} {locs : List Loc} {cells slots : Nat} {Q : State → Prop} {g : JFrame} {J : Nat} {ls : Array Slot} {rest : List Value} {v : Int32} (b : W p l e R s m args below meth c H locs cells slots Q (F0 m J ls (.int v :: rest)) → W p l e R s m args below meth c H locs cells slots Q g) (k : ∀ y : Int32, y = v → W p l e R s m args below meth c H locs cells slots Q (F0 m J ls (.int y :: rest))) : W p l e R s m args below meth c H locs cells slots Q g := b (k v rfl)
theorem jn_l {p : Program} {l : Launch} {e : Env} {R : Room} {s : State} {m : MethodId} {args : Array Value} {below : List Frame} {meth : Method} {c : Code} {H : Heap} {locs : List Loc} {cells slots : Nat} {Q : State → Prop} {g : JFrame} {J : Nat} {ls : Array Slot} {rest : List Value} {v : Int64} (b : W p l e R s m args below meth c H locs cells slots Q (F0 m J ls (.long v :: rest)) → W p l e R s m args below meth c H locs cells slots Q g) (k : ∀ y : Int64, y = v → W p l e R s m args below meth c H locs cells slots Q (F0 m J ls (.long y :: rest))) : W p l e R s m args below meth c H locs cells slots Q g := b (k v rfl)
theorem jn_f {p : Program} {l : Launch} {e : Env} {R : Room} {s : State} {m : MethodId} {args : Array Value} {below : List Frame} {meth : Method} {c : Code} {H : Heap} {locs : List Loc} {cells slots : Nat} {Q : State → Prop} {g : JFrame} {J : Nat} {ls : Array Slot} {rest : List Value} {v : UInt32} (b : W p l e R s m args below meth c H locs cells slots Q (F0 m J ls (.float v :: rest)) → W p l e R s m args below meth c H locs cells slots Q g) (k : ∀ y : UInt32, y = v → W p l e R s m args below meth c H locs cells slots Q (F0 m J ls (.float y :: rest))) : W p l e R s m args below meth c H locs cells slots Q g := b (k v rfl)
theorem jn_d {p : Program} {l : Launch} {e : Env} {R : Room} {s : State} {m : MethodId} {args : Array Value} {below : List Frame} {meth : Method} {c : Code} {H : Heap} {locs : List Loc} {cells slots : Nat} {Q : State → Prop} {g : JFrame} {J : Nat} {ls : Array Slot} {rest : List Value} {v : UInt64} (b : W p l e R s m args below meth c H locs cells slots Q (F0 m J ls (.double v :: rest)) → W p l e R s m args below meth c H locs cells slots Q g) (k : ∀ y : UInt64, y = v → W p l e R s m args below meth c H locs cells slots Q (F0 m J ls (.double y :: rest))) : W p l e R s m args below meth c H locs cells slots Q g := b (k v rfl)
theorem jn_r {p : Program} {l : Launch} {e : Env} {R : Room} {s : State} {m : MethodId} {args : Array Value} {below : List Frame} {meth : Method} {c : Code} {H : Heap} {locs : List Loc} {cells slots : Nat} {Q : State → Prop} {g : JFrame} {J : Nat} {ls : Array Slot} {rest : List Value} {v : Nat} (b : W p l e R s m args below meth c H locs cells slots Q (F0 m J ls (.ref v :: rest)) → W p l e R s m args below meth c H locs cells slots Q g) (k : ∀ y : Nat, y = v → W p l e R s m args below meth c H locs cells slots Q (F0 m J ls (.ref y :: rest))) : W p l e R s m args below meth c H locs cells slots Q g := b (k v rfl)
theorem jn_loop {p : Program} {l : Launch} {e : Env} {R : Room} {s : State} {m : MethodId} {args : Array Value} {below : List Frame} {meth : Method} {c : Code} {H : Heap} {locs : List Loc} {cells slots : Nat} {Q : State → Prop} {α : Type} {I : Nat → α → Prop} {P : α → JFrame} (step : ∀ (n : Nat) (a : α), I n a → (∀ (n' : Nat) (a' : α), n = n' + 1 → I n' a' → W p l e R s m args below meth c H locs cells slots Q (P a')) → W p l e R s m args below meth c H locs cells slots Q (P a)) : ∀ (n : Nat) (a : α), I n a → W p l e R s m args below meth c H locs cells slots Q (P a) := by
  intro n
  induction n with
  | zero => intro a h; exact step 0 a h (fun n' a' e => absurd e (by omega))
  | succ n ih => intro a h; exact step (n + 1) a h (fun n' a' e hi => by cases e; exact ih a' hi)
theorem narrow_bool {v : Int32} (h : v = 0 ∨ v = 1) : narrow .boolean (.int v) = .int v := by rcases h with rfl | rfl <;> rfl
end
section
def jX4_width (a0 : Int32) : Int32 := (if a0 = 0 then (23 : Int32) else (52 : Int32))
set_option maxHeartbeats 4000000 in
set_option maxRecDepth 100000 in
theorem qX4_width (l : Launch) (a0 : Int32) : Met l yX4_width wsX4_width ({ frames := 0, cells := 0, slots := 0, locals := 0 }) (fun v _ => v = ([.int a0] : List Value).toArray) (vp_Si (fun r => r = jX4_width a0)) 0 0 (fun _ => False) := by
  refine Met.ofW (cc := cX4_width) (maxL := 1) (ret := some .int) (by decide) rfl ?_
  intro p e s m args below meth c s₁ B hml hv
  subst hv
  have hx := B.exec
  have hb := B.bytes
  have hr := B.returns
  have hts := atoms_spec (ws := wsX4_width) B.pre
  have hown : s.vm.findClass RX4 = some m.cls := findClass_of_methodNamed B.named
  have hlocks := B.notSynchronized
  obtain ⟨JR, hE⟩ : ∃ q, jX4_width a0 = q := ⟨_, rfl⟩
  have hJ := hE
  rw [jX4_width] at hJ
  have hl := lv_entry ([.int a0]) (n := 1) (Nat.le_of_ble_eq_true rfl)
  rw [lg_entry_eq]
  generalize (lg_sl ([.int a0]) ++ List.replicate (1 - (lg_sl ([.int a0])).length) Slot.unset).toArray = ls at hl ⊢
  have hl : lv_has ls 1 [(0, .int a0)] := hl
  refine lv_iload_n hx hb dX4_width_0 rfl (lv_at hl 0 rfl) ?_
  refine lv_if_eq (tgt := 9) hx hb dX4_width_1 (by decide) (fun c1 => ?_) (fun c1 => ?_)
  · skip
    rw [if_pos c1] at hJ
    refine lv_bipush (v := (23 : Int32)) hx hb dX4_width_9 (by decide) ?_
    exact W.iret hx hb hr (fun t ht hW => ⟨_, rfl, hJ.trans hE.symm, ht⟩) (fun q h => absurd h List.not_mem_nil) dX4_width_11
  · skip
    rw [if_neg c1] at hJ
    refine lv_bipush (v := (52 : Int32)) hx hb dX4_width_4 (by decide) ?_
    refine lv_goto (tgt := 11) hx hb dX4_width_6 (by decide) ?_
    exact W.iret hx hb hr (fun t ht hW => ⟨_, rfl, hJ.trans hE.symm, ht⟩) (fun q h => absurd h List.not_mem_nil) dX4_width_11
def jX4_sizeOf_y1 (a0 : Int32) (a1 : Int64) (y1 : Int64) : Int64 := (a1 &&& y1)
def jX4_sizeOf (a0 : Int32) (a1 : Int64) : Int64 := (jX4_sizeOf_y1 a0 a1 (if a0 = 0 then (2147483647 : Int64) else (9223372036854775807 : Int64)))
set_option maxHeartbeats 4000000 in
set_option maxRecDepth 100000 in
theorem qX4_sizeOf (l : Launch) (a0 : Int32) (a1 : Int64) : Met l yX4_sizeOf wsX4_sizeOf ({ frames := 0, cells := 0, slots := 0, locals := 0 }) (fun v _ => v = ([.int a0, .long a1] : List Value).toArray) (vp_Sl (fun r => r = jX4_sizeOf a0 a1)) 0 0 (fun _ => False) := by
  refine Met.ofW (cc := cX4_sizeOf) (maxL := 3) (ret := some .long) (by decide) rfl ?_
  intro p e s m args below meth c s₁ B hml hv
  subst hv
  have hx := B.exec
  have hb := B.bytes
  have hr := B.returns
  have hts := atoms_spec (ws := wsX4_sizeOf) B.pre
  have hown : s.vm.findClass RX4 = some m.cls := findClass_of_methodNamed B.named
  have hlocks := B.notSynchronized
  obtain ⟨JR, hE⟩ : ∃ q, jX4_sizeOf a0 a1 = q := ⟨_, rfl⟩
  have hJ := hE
  rw [jX4_sizeOf] at hJ
  have hl := lv_entry ([.int a0, .long a1]) (n := 3) (Nat.le_of_ble_eq_true rfl)
  rw [lg_entry_eq]
  generalize (lg_sl ([.int a0, .long a1]) ++ List.replicate (3 - (lg_sl ([.int a0, .long a1])).length) Slot.unset).toArray = ls at hl ⊢
  have hl : lv_has ls 3 [(0, .int a0), (1, .long a1)] := hl
  refine lv_lload_n hx hb dX4_sizeOf_0 rfl (lv_at hl 1 rfl) ?_
  refine lv_iload_n hx hb dX4_sizeOf_1 rfl (lv_at hl 0 rfl) ?_
  refine jn_l (J := 14) (ls := ls) (v := (if a0 = 0 then (2147483647 : Int64) else (9223372036854775807 : Int64))) (rest := [.long a1]) ?_ (fun y1 ey1 => ?_)
  · intro hj
    refine lv_if_eq (tgt := 11) hx hb dX4_sizeOf_2 (by decide) (fun c2 => ?_) (fun c2 => ?_)
    · skip
      rw [if_pos c2] at hj
      refine lv_ldc2 (v := (2147483647 : Int64)) hx hb hown (hts (.constantLong RX4 82 (2147483647)) (by decide +kernel)) dX4_sizeOf_11 ?_
      exact hj
    · skip
      rw [if_neg c2] at hj
      refine lv_ldc2 (v := (9223372036854775807 : Int64)) hx hb hown (hts (.constantLong RX4 68 (9223372036854775807)) (by decide +kernel)) dX4_sizeOf_5 ?_
      refine lv_goto (tgt := 14) hx hb dX4_sizeOf_8 (by decide) ?_
      exact hj
  rw [← ey1] at hJ
  rw [jX4_sizeOf_y1] at hJ
  refine lv_land hx hb dX4_sizeOf_14 ?_
  exact W.lret hx hb hr (fun t ht hW => ⟨_, rfl, hJ.trans hE.symm, ht⟩) (fun q h => absurd h List.not_mem_nil) dX4_sizeOf_15
def jX4_mantissa_y2 (a0 : Int32) (a1 : Int64) (y1 : Int64) (y2 : Int64) : Int64 := (if y1 ≤ (jX4_sizeOf a0 a1) then (y2 ||| y1) else y2)
def jX4_mantissa_y1 (a0 : Int32) (a1 : Int64) (y1 : Int64) : Int64 := (jX4_mantissa_y2 a0 a1 y1 (a1 &&& (y1 - (1 : Int64))))
def jX4_mantissa (a0 : Int32) (a1 : Int64) : Int64 := (jX4_mantissa_y1 a0 a1 ((1 : Int64) <<< ((jX4_width a0).toInt64 &&& 63)))
set_option maxHeartbeats 4000000 in
set_option maxRecDepth 100000 in
theorem qX4_mantissa (l : Launch) (a0 : Int32) (a1 : Int64) : Met l yX4_mantissa wsX4_mantissa ({ frames := 1, cells := 0, slots := 0, locals := 22 }) (fun v _ => v = ([.int a0, .long a1] : List Value).toArray) (vp_Sl (fun r => r = jX4_mantissa a0 a1)) 0 0 (fun _ => False) := by
  refine Met.ofW (cc := cX4_mantissa) (maxL := 7) (ret := some .long) (by decide) rfl ?_
  intro p e s m args below meth c s₁ B hml hv
  subst hv
  have hx := B.exec
  have hb := B.bytes
  have hr := B.returns
  have hts := atoms_spec (ws := wsX4_mantissa) B.pre
  have hown : s.vm.findClass RX4 = some m.cls := findClass_of_methodNamed B.named
  have hlocks := B.notSynchronized
  obtain ⟨JR, hE⟩ : ∃ q, jX4_mantissa a0 a1 = q := ⟨_, rfl⟩
  have hJ := hE
  rw [jX4_mantissa] at hJ
  have hl := lv_entry ([.int a0, .long a1]) (n := 7) (Nat.le_of_ble_eq_true rfl)
  rw [lg_entry_eq]
  generalize (lg_sl ([.int a0, .long a1]) ++ List.replicate (7 - (lg_sl ([.int a0, .long a1])).length) Slot.unset).toArray = ls at hl ⊢
  have hl : lv_has ls 7 [(0, .int a0), (1, .long a1)] := hl
  refine lv_lconst (v := (1 : Int64)) hx hb dX4_mantissa_0 (by decide) ?_
  refine lv_iload_n hx hb dX4_mantissa_1 rfl (lv_at hl 0 rfl) ?_
  refine vp_callSi (W.runS (As := [.int a0]) (rest := [.long (1 : Int64)]) ⟨hx, hb, hml, hown, hts⟩ (qX4_width l a0) (va_cwS 1 hts gX4_mantissa_X4_width rfl rfl rfl (by decide +kernel) ⟨Nat.le_of_ble_eq_true rfl, Nat.le_of_ble_eq_true rfl⟩) ⟨fun _ _ _ _ q => q, fun U hU hW => rfl⟩ rfl rfl hl.1 rfl (lv_room (Nat.le_of_ble_eq_true rfl)) dX4_mantissa_2 ⟨Nat.le_of_ble_eq_true rfl, Nat.le_of_ble_eq_true rfl⟩) (fun r hr => ?_)
  subst hr
  refine lv_lshl (v := ((1 : Int64) <<< ((jX4_width a0).toInt64 &&& 63))) hx hb dX4_mantissa_5 rfl ?_
  refine lv_topl (fun y1 ey1 => ?_)
  rw [← ey1] at hJ
  rw [jX4_mantissa_y1] at hJ
  refine lv_lstore_n (lv' := [(3, .long y1), (0, .int a0), (1, .long a1)]) hx hb dX4_mantissa_6 rfl hl (by decide) rfl (fun ls hl => ?_)
  refine lv_lload_n hx hb dX4_mantissa_7 rfl (lv_at hl 2 rfl) ?_
  refine lv_lload_n hx hb dX4_mantissa_8 rfl (lv_at hl 0 rfl) ?_
  refine lv_lconst (v := (1 : Int64)) hx hb dX4_mantissa_9 (by decide) ?_
  refine lv_lsub hx hb dX4_mantissa_10 ?_
  refine lv_land hx hb dX4_mantissa_11 ?_
  refine lv_topl (fun y2 ey2 => ?_)
  rw [← ey2] at hJ
  rw [jX4_mantissa_y2] at hJ
  refine lv_lstore (lv' := [(5, .long y2), (3, .long y1), (0, .int a0), (1, .long a1)]) hx hb dX4_mantissa_12 hl (by decide) rfl (fun ls hl => ?_)
  refine lv_iload_n hx hb dX4_mantissa_14 rfl (lv_at hl 2 rfl) ?_
  refine lv_lload_n hx hb dX4_mantissa_15 rfl (lv_at hl 3 rfl) ?_
  refine vp_callSl (W.runS (As := [.int a0, .long a1]) (rest := []) ⟨hx, hb, hml, hown, hts⟩ (qX4_sizeOf l a0 a1) (va_cwS 2 hts gX4_mantissa_X4_sizeOf rfl rfl rfl (by decide +kernel) ⟨Nat.le_of_ble_eq_true rfl, Nat.le_of_ble_eq_true rfl⟩) ⟨fun _ _ _ _ q => q, fun U hU hW => rfl⟩ rfl rfl hl.1 rfl (lv_room (Nat.le_of_ble_eq_true rfl)) dX4_mantissa_16 ⟨Nat.le_of_ble_eq_true rfl, Nat.le_of_ble_eq_true rfl⟩) (fun r hr => ?_)
  subst hr
  refine lv_lload_n hx hb dX4_mantissa_19 rfl (lv_at hl 1 rfl) ?_
  refine W.lcmp hx hb dX4_mantissa_20 ?_
  refine lv_if_ge (tgt := 29) hx hb dX4_mantissa_21 (by decide) (fun c3 => ?_) (fun c3 => ?_)
  · have c3 := (lg_cmp_ge _ _).mp c3
    rw [if_pos c3] at hJ
    refine lv_lload hx hb dX4_mantissa_29 (lv_at hl 0 rfl) ?_
    refine lv_lload_n hx hb dX4_mantissa_31 rfl (lv_at hl 1 rfl) ?_
    refine lv_lor hx hb dX4_mantissa_32 ?_
    exact W.lret hx hb hr (fun t ht hW => ⟨_, rfl, hJ.trans hE.symm, ht⟩) (fun q h => absurd h List.not_mem_nil) dX4_mantissa_33
  · have c3 := mt (lg_cmp_ge _ _).mpr c3
    rw [if_neg c3] at hJ
    refine lv_lload hx hb dX4_mantissa_24 (lv_at hl 0 rfl) ?_
    refine lv_goto (tgt := 33) hx hb dX4_mantissa_26 (by decide) ?_
    exact W.lret hx hb hr (fun t ht hW => ⟨_, rfl, hJ.trans hE.symm, ht⟩) (fun q h => absurd h List.not_mem_nil) dX4_mantissa_33
def jX4_leastExponent (a0 : Int32) : Int32 := (if a0 = 0 then (-149 : Int32) else (-1074 : Int32))
set_option maxHeartbeats 4000000 in
set_option maxRecDepth 100000 in
theorem qX4_leastExponent (l : Launch) (a0 : Int32) : Met l yX4_leastExponent wsX4_leastExponent ({ frames := 0, cells := 0, slots := 0, locals := 0 }) (fun v _ => v = ([.int a0] : List Value).toArray) (vp_Si (fun r => r = jX4_leastExponent a0)) 0 0 (fun _ => False) := by
  refine Met.ofW (cc := cX4_leastExponent) (maxL := 1) (ret := some .int) (by decide) rfl ?_
  intro p e s m args below meth c s₁ B hml hv
  subst hv
  have hx := B.exec
  have hb := B.bytes
  have hr := B.returns
  have hts := atoms_spec (ws := wsX4_leastExponent) B.pre
  have hown : s.vm.findClass RX4 = some m.cls := findClass_of_methodNamed B.named
  have hlocks := B.notSynchronized
  obtain ⟨JR, hE⟩ : ∃ q, jX4_leastExponent a0 = q := ⟨_, rfl⟩
  have hJ := hE
  rw [jX4_leastExponent] at hJ
  have hl := lv_entry ([.int a0]) (n := 1) (Nat.le_of_ble_eq_true rfl)
  rw [lg_entry_eq]
  generalize (lg_sl ([.int a0]) ++ List.replicate (1 - (lg_sl ([.int a0])).length) Slot.unset).toArray = ls at hl ⊢
  have hl : lv_has ls 1 [(0, .int a0)] := hl
  refine lv_iload_n hx hb dX4_leastExponent_0 rfl (lv_at hl 0 rfl) ?_
  refine lv_if_eq (tgt := 10) hx hb dX4_leastExponent_1 (by decide) (fun c1 => ?_) (fun c1 => ?_)
  · skip
    rw [if_pos c1] at hJ
    refine lv_sipush (v := (-149 : Int32)) hx hb dX4_leastExponent_10 (by decide) ?_
    exact W.iret hx hb hr (fun t ht hW => ⟨_, rfl, hJ.trans hE.symm, ht⟩) (fun q h => absurd h List.not_mem_nil) dX4_leastExponent_13
  · skip
    rw [if_neg c1] at hJ
    refine lv_sipush (v := (-1074 : Int32)) hx hb dX4_leastExponent_4 (by decide) ?_
    refine lv_goto (tgt := 13) hx hb dX4_leastExponent_7 (by decide) ?_
    exact W.iret hx hb hr (fun t ht hW => ⟨_, rfl, hJ.trans hE.symm, ht⟩) (fun q h => absurd h List.not_mem_nil) dX4_leastExponent_13
def jX4_exponent_y1 (a0 : Int32) (a1 : Int64) (y1 : Int32) : Int32 := ((jX4_leastExponent a0) + (if (0 : Int32) < (y1 - (1 : Int32)) then (y1 - (1 : Int32)) else (0 : Int32)))
def jX4_exponent (a0 : Int32) (a1 : Int64) : Int32 := (jX4_exponent_y1 a0 a1 ((((jX4_sizeOf a0 a1).toUInt64 >>> ((jX4_width a0).toInt64.toUInt64 &&& Int64.toUInt64 63)).toInt64).toInt32))
set_option maxHeartbeats 4000000 in
set_option maxRecDepth 100000 in
theorem qX4_exponent (l : Launch) (a0 : Int32) (a1 : Int64) : Met l yX4_exponent wsX4_exponent ({ frames := 1, cells := 0, slots := 0, locals := 22 }) (fun v _ => v = ([.int a0, .long a1] : List Value).toArray) (vp_Si (fun r => r = jX4_exponent a0 a1)) 0 0 (fun _ => False) := by
  refine Met.ofW (cc := cX4_exponent) (maxL := 4) (ret := some .int) (by decide) rfl ?_
  intro p e s m args below meth c s₁ B hml hv
  subst hv
  have hx := B.exec
  have hb := B.bytes
  have hr := B.returns
  have hts := atoms_spec (ws := wsX4_exponent) B.pre
  have hown : s.vm.findClass RX4 = some m.cls := findClass_of_methodNamed B.named
  have hlocks := B.notSynchronized
  obtain ⟨JR, hE⟩ : ∃ q, jX4_exponent a0 a1 = q := ⟨_, rfl⟩
  have hJ := hE
  rw [jX4_exponent] at hJ
  have hl := lv_entry ([.int a0, .long a1]) (n := 4) (Nat.le_of_ble_eq_true rfl)
  rw [lg_entry_eq]
  generalize (lg_sl ([.int a0, .long a1]) ++ List.replicate (4 - (lg_sl ([.int a0, .long a1])).length) Slot.unset).toArray = ls at hl ⊢
  have hl : lv_has ls 4 [(0, .int a0), (1, .long a1)] := hl
  refine lv_iload_n hx hb dX4_exponent_0 rfl (lv_at hl 0 rfl) ?_
  refine lv_lload_n hx hb dX4_exponent_1 rfl (lv_at hl 1 rfl) ?_
  refine vp_callSl (W.runS (As := [.int a0, .long a1]) (rest := []) ⟨hx, hb, hml, hown, hts⟩ (qX4_sizeOf l a0 a1) (va_cwS 2 hts gX4_exponent_X4_sizeOf rfl rfl rfl (by decide +kernel) ⟨Nat.le_of_ble_eq_true rfl, Nat.le_of_ble_eq_true rfl⟩) ⟨fun _ _ _ _ q => q, fun U hU hW => rfl⟩ rfl rfl hl.1 rfl (lv_room (Nat.le_of_ble_eq_true rfl)) dX4_exponent_2 ⟨Nat.le_of_ble_eq_true rfl, Nat.le_of_ble_eq_true rfl⟩) (fun r hr => ?_)
  subst hr
  refine lv_iload_n hx hb dX4_exponent_5 rfl (lv_at hl 0 rfl) ?_
  refine vp_callSi (W.runS (As := [.int a0]) (rest := [.long (jX4_sizeOf a0 a1)]) ⟨hx, hb, hml, hown, hts⟩ (qX4_width l a0) (va_cwS 1 hts gX4_exponent_X4_width rfl rfl rfl (by decide +kernel) ⟨Nat.le_of_ble_eq_true rfl, Nat.le_of_ble_eq_true rfl⟩) ⟨fun _ _ _ _ q => q, fun U hU hW => rfl⟩ rfl rfl hl.1 rfl (lv_room (Nat.le_of_ble_eq_true rfl)) dX4_exponent_6 ⟨Nat.le_of_ble_eq_true rfl, Nat.le_of_ble_eq_true rfl⟩) (fun r hr => ?_)
  subst hr
  refine lv_lushr (v := ((jX4_sizeOf a0 a1).toUInt64 >>> ((jX4_width a0).toInt64.toUInt64 &&& Int64.toUInt64 63)).toInt64) hx hb dX4_exponent_9 rfl ?_
  refine lv_l2i (v := (((jX4_sizeOf a0 a1).toUInt64 >>> ((jX4_width a0).toInt64.toUInt64 &&& Int64.toUInt64 63)).toInt64).toInt32) hx hb dX4_exponent_10 rfl ?_
  refine lv_topi (fun y1 ey1 => ?_)
  rw [← ey1] at hJ
  rw [jX4_exponent_y1] at hJ
  refine lv_istore_n (lv' := [(3, .int y1), (0, .int a0), (1, .long a1)]) hx hb dX4_exponent_11 rfl hl (by decide) rfl (fun ls hl => ?_)
  refine lv_iload_n hx hb dX4_exponent_12 rfl (lv_at hl 1 rfl) ?_
  refine vp_callSi (W.runS (As := [.int a0]) (rest := []) ⟨hx, hb, hml, hown, hts⟩ (qX4_leastExponent l a0) (va_cwS 1 hts gX4_exponent_X4_leastExponent rfl rfl rfl (by decide +kernel) ⟨Nat.le_of_ble_eq_true rfl, Nat.le_of_ble_eq_true rfl⟩) ⟨fun _ _ _ _ q => q, fun U hU hW => rfl⟩ rfl rfl hl.1 rfl (lv_room (Nat.le_of_ble_eq_true rfl)) dX4_exponent_13 ⟨Nat.le_of_ble_eq_true rfl, Nat.le_of_ble_eq_true rfl⟩) (fun r hr => ?_)
  subst hr
  refine lv_iconst (v := (0 : Int32)) hx hb dX4_exponent_16 (by decide) ?_
  refine lv_iload_n hx hb dX4_exponent_17 rfl (lv_at hl 0 rfl) ?_
  refine lv_iconst (v := (1 : Int32)) hx hb dX4_exponent_18 (by decide) ?_
  refine lv_isub hx hb dX4_exponent_19 ?_
  refine va_mmax hx hb (hml.trans hl.1.symm) hown (hts (.methodLink RX4 57 Lib.Math.max.name) (by decide +kernel)) (hts (.static Lib.Math.max.name) (by decide +kernel)) (hts (.initialized "java/lang/Math") (by decide +kernel)) (hts (.code Lib.Math.max.name Lib.Math.max.code 2 (some .int)) (by decide +kernel)) (Nat.le_of_ble_eq_true rfl) (Nat.le_of_ble_eq_true rfl) (Nat.zero_le _) (Nat.zero_le _) dX4_exponent_20 ?_
  refine lv_iadd hx hb dX4_exponent_23 ?_
  exact W.iret hx hb hr (fun t ht hW => ⟨_, rfl, hJ.trans hE.symm, ht⟩) (fun q h => absurd h List.not_mem_nil) dX4_exponent_24
def jX4_signed_y1 (a0 : Int32) (a1 : Int32) (a2 : Int64) (y1 : Int64) : Int64 := (if a1 = 0 then a2 else (a2 ||| y1))
def jX4_signed (a0 : Int32) (a1 : Int32) (a2 : Int64) : Int64 := (jX4_signed_y1 a0 a1 a2 (if a0 = 0 then (-2147483648 : Int64) else (-9223372036854775808 : Int64)))
set_option maxHeartbeats 4000000 in
set_option maxRecDepth 100000 in
theorem qX4_signed (l : Launch) (a0 : Int32) (a1 : Int32) (a2 : Int64) : Met l yX4_signed wsX4_signed ({ frames := 0, cells := 0, slots := 0, locals := 0 }) (fun v _ => v = ([.int a0, .int a1, .long a2] : List Value).toArray) (vp_Sl (fun r => r = jX4_signed a0 a1 a2)) 0 0 (fun _ => False) := by
  refine Met.ofW (cc := cX4_signed) (maxL := 6) (ret := some .long) (by decide) rfl ?_
  intro p e s m args below meth c s₁ B hml hv
  subst hv
  have hx := B.exec
  have hb := B.bytes
  have hr := B.returns
  have hts := atoms_spec (ws := wsX4_signed) B.pre
  have hown : s.vm.findClass RX4 = some m.cls := findClass_of_methodNamed B.named
  have hlocks := B.notSynchronized
  obtain ⟨JR, hE⟩ : ∃ q, jX4_signed a0 a1 a2 = q := ⟨_, rfl⟩
  have hJ := hE
  rw [jX4_signed] at hJ
  have hl := lv_entry ([.int a0, .int a1, .long a2]) (n := 6) (Nat.le_of_ble_eq_true rfl)
  rw [lg_entry_eq]
  generalize (lg_sl ([.int a0, .int a1, .long a2]) ++ List.replicate (6 - (lg_sl ([.int a0, .int a1, .long a2])).length) Slot.unset).toArray = ls at hl ⊢
  have hl : lv_has ls 6 [(0, .int a0), (1, .int a1), (2, .long a2)] := hl
  refine lv_iload_n hx hb dX4_signed_0 rfl (lv_at hl 0 rfl) ?_
  refine jn_l (J := 13) (ls := ls) (v := (if a0 = 0 then (-2147483648 : Int64) else (-9223372036854775808 : Int64))) (rest := []) ?_ (fun y1 ey1 => ?_)
  · intro hj
    refine lv_if_eq (tgt := 10) hx hb dX4_signed_1 (by decide) (fun c2 => ?_) (fun c2 => ?_)
    · skip
      rw [if_pos c2] at hj
      refine lv_ldc2 (v := (-2147483648 : Int64)) hx hb hown (hts (.constantLong RX4 84 (-2147483648)) (by decide +kernel)) dX4_signed_10 ?_
      exact hj
    · skip
      rw [if_neg c2] at hj
      refine lv_ldc2 (v := (-9223372036854775808 : Int64)) hx hb hown (hts (.constantLong RX4 19 (-9223372036854775808)) (by decide +kernel)) dX4_signed_4 ?_
      refine lv_goto (tgt := 13) hx hb dX4_signed_7 (by decide) ?_
      exact hj
  rw [← ey1] at hJ
  rw [jX4_signed_y1] at hJ
  refine lv_lstore (lv' := [(4, .long y1), (0, .int a0), (1, .int a1), (2, .long a2)]) hx hb dX4_signed_13 hl (by decide) rfl (fun ls hl => ?_)
  refine lv_iload_n hx hb dX4_signed_15 rfl (lv_at hl 2 rfl) ?_
  refine lv_if_eq (tgt := 26) hx hb dX4_signed_16 (by decide) (fun c3 => ?_) (fun c3 => ?_)
  · skip
    rw [if_pos c3] at hJ
    refine lv_lload_n hx hb dX4_signed_26 rfl (lv_at hl 3 rfl) ?_
    exact W.lret hx hb hr (fun t ht hW => ⟨_, rfl, hJ.trans hE.symm, ht⟩) (fun q h => absurd h List.not_mem_nil) dX4_signed_27
  · skip
    rw [if_neg c3] at hJ
    refine lv_lload_n hx hb dX4_signed_19 rfl (lv_at hl 3 rfl) ?_
    refine lv_lload hx hb dX4_signed_20 (lv_at hl 0 rfl) ?_
    refine lv_lor hx hb dX4_signed_22 ?_
    refine lv_goto (tgt := 27) hx hb dX4_signed_23 (by decide) ?_
    exact W.lret hx hb hr (fun t ht hW => ⟨_, rfl, hJ.trans hE.symm, ht⟩) (fun q h => absurd h List.not_mem_nil) dX4_signed_27
def jJ6_numberOfLeadingZeros_0f7a4_y6 (a0 : Int32) (y6 : Int32) : Int32 := ((29 : Int32) - ((y6.toUInt32 >>> ((1 : Int32).toUInt32 &&& Int32.toUInt32 31)).toInt32))
def jJ6_numberOfLeadingZeros_0f7a4_y9 (a0 : Int32) (y7 : Int32) (y9 : Int32) : Int32 := ((25 : Int32) - ((y9.toUInt32 >>> ((1 : Int32).toUInt32 &&& Int32.toUInt32 31)).toInt32))
def jJ6_numberOfLeadingZeros_0f7a4_y7 (a0 : Int32) (y7 : Int32) : Int32 := (if y7 < (4 : Int32) then ((27 : Int32) - ((y7.toUInt32 >>> ((1 : Int32).toUInt32 &&& Int32.toUInt32 31)).toInt32)) else (jJ6_numberOfLeadingZeros_0f7a4_y9 a0 y7 ((y7.toUInt32 >>> ((2 : Int32).toUInt32 &&& Int32.toUInt32 31)).toInt32)))
def jJ6_numberOfLeadingZeros_0f7a4_y13 (a0 : Int32) (y10 : Int32) (y13 : Int32) : Int32 := ((21 : Int32) - ((y13.toUInt32 >>> ((1 : Int32).toUInt32 &&& Int32.toUInt32 31)).toInt32))
def jJ6_numberOfLeadingZeros_0f7a4_y16 (a0 : Int32) (y10 : Int32) (y14 : Int32) (y16 : Int32) : Int32 := ((17 : Int32) - ((y16.toUInt32 >>> ((1 : Int32).toUInt32 &&& Int32.toUInt32 31)).toInt32))
def jJ6_numberOfLeadingZeros_0f7a4_y14 (a0 : Int32) (y10 : Int32) (y14 : Int32) : Int32 := (if y14 < (4 : Int32) then ((19 : Int32) - ((y14.toUInt32 >>> ((1 : Int32).toUInt32 &&& Int32.toUInt32 31)).toInt32)) else (jJ6_numberOfLeadingZeros_0f7a4_y16 a0 y10 y14 ((y14.toUInt32 >>> ((2 : Int32).toUInt32 &&& Int32.toUInt32 31)).toInt32)))
def jJ6_numberOfLeadingZeros_0f7a4_y10 (a0 : Int32) (y10 : Int32) : Int32 := (if y10 < (16 : Int32) then (if y10 < (4 : Int32) then ((23 : Int32) - ((y10.toUInt32 >>> ((1 : Int32).toUInt32 &&& Int32.toUInt32 31)).toInt32)) else (jJ6_numberOfLeadingZeros_0f7a4_y13 a0 y10 ((y10.toUInt32 >>> ((2 : Int32).toUInt32 &&& Int32.toUInt32 31)).toInt32))) else (jJ6_numberOfLeadingZeros_0f7a4_y14 a0 y10 ((y10.toUInt32 >>> ((4 : Int32).toUInt32 &&& Int32.toUInt32 31)).toInt32)))
def jJ6_numberOfLeadingZeros_0f7a4_y21 (a0 : Int32) (y17 : Int32) (y21 : Int32) : Int32 := ((13 : Int32) - ((y21.toUInt32 >>> ((1 : Int32).toUInt32 &&& Int32.toUInt32 31)).toInt32))
def jJ6_numberOfLeadingZeros_0f7a4_y24 (a0 : Int32) (y17 : Int32) (y22 : Int32) (y24 : Int32) : Int32 := ((9 : Int32) - ((y24.toUInt32 >>> ((1 : Int32).toUInt32 &&& Int32.toUInt32 31)).toInt32))
def jJ6_numberOfLeadingZeros_0f7a4_y22 (a0 : Int32) (y17 : Int32) (y22 : Int32) : Int32 := (if y22 < (4 : Int32) then ((11 : Int32) - ((y22.toUInt32 >>> ((1 : Int32).toUInt32 &&& Int32.toUInt32 31)).toInt32)) else (jJ6_numberOfLeadingZeros_0f7a4_y24 a0 y17 y22 ((y22.toUInt32 >>> ((2 : Int32).toUInt32 &&& Int32.toUInt32 31)).toInt32)))
def jJ6_numberOfLeadingZeros_0f7a4_y28 (a0 : Int32) (y17 : Int32) (y25 : Int32) (y28 : Int32) : Int32 := ((5 : Int32) - ((y28.toUInt32 >>> ((1 : Int32).toUInt32 &&& Int32.toUInt32 31)).toInt32))
def jJ6_numberOfLeadingZeros_0f7a4_y31 (a0 : Int32) (y17 : Int32) (y25 : Int32) (y29 : Int32) (y31 : Int32) : Int32 := ((1 : Int32) - ((y31.toUInt32 >>> ((1 : Int32).toUInt32 &&& Int32.toUInt32 31)).toInt32))
def jJ6_numberOfLeadingZeros_0f7a4_y29 (a0 : Int32) (y17 : Int32) (y25 : Int32) (y29 : Int32) : Int32 := (if y29 < (4 : Int32) then ((3 : Int32) - ((y29.toUInt32 >>> ((1 : Int32).toUInt32 &&& Int32.toUInt32 31)).toInt32)) else (jJ6_numberOfLeadingZeros_0f7a4_y31 a0 y17 y25 y29 ((y29.toUInt32 >>> ((2 : Int32).toUInt32 &&& Int32.toUInt32 31)).toInt32)))
def jJ6_numberOfLeadingZeros_0f7a4_y25 (a0 : Int32) (y17 : Int32) (y25 : Int32) : Int32 := (if y25 < (16 : Int32) then (if y25 < (4 : Int32) then ((7 : Int32) - ((y25.toUInt32 >>> ((1 : Int32).toUInt32 &&& Int32.toUInt32 31)).toInt32)) else (jJ6_numberOfLeadingZeros_0f7a4_y28 a0 y17 y25 ((y25.toUInt32 >>> ((2 : Int32).toUInt32 &&& Int32.toUInt32 31)).toInt32))) else (jJ6_numberOfLeadingZeros_0f7a4_y29 a0 y17 y25 ((y25.toUInt32 >>> ((4 : Int32).toUInt32 &&& Int32.toUInt32 31)).toInt32)))
def jJ6_numberOfLeadingZeros_0f7a4_y17 (a0 : Int32) (y17 : Int32) : Int32 := (if y17 < (256 : Int32) then (if y17 < (16 : Int32) then (if y17 < (4 : Int32) then ((15 : Int32) - ((y17.toUInt32 >>> ((1 : Int32).toUInt32 &&& Int32.toUInt32 31)).toInt32)) else (jJ6_numberOfLeadingZeros_0f7a4_y21 a0 y17 ((y17.toUInt32 >>> ((2 : Int32).toUInt32 &&& Int32.toUInt32 31)).toInt32))) else (jJ6_numberOfLeadingZeros_0f7a4_y22 a0 y17 ((y17.toUInt32 >>> ((4 : Int32).toUInt32 &&& Int32.toUInt32 31)).toInt32))) else (jJ6_numberOfLeadingZeros_0f7a4_y25 a0 y17 ((y17.toUInt32 >>> ((8 : Int32).toUInt32 &&& Int32.toUInt32 31)).toInt32)))
def jJ6_numberOfLeadingZeros_0f7a4 (a0 : Int32) : Int32 := (if 0 < a0 then (if a0 < (65536 : Int32) then (if a0 < (256 : Int32) then (if a0 < (16 : Int32) then (if a0 < (4 : Int32) then ((31 : Int32) - ((a0.toUInt32 >>> ((1 : Int32).toUInt32 &&& Int32.toUInt32 31)).toInt32)) else (jJ6_numberOfLeadingZeros_0f7a4_y6 a0 ((a0.toUInt32 >>> ((2 : Int32).toUInt32 &&& Int32.toUInt32 31)).toInt32))) else (jJ6_numberOfLeadingZeros_0f7a4_y7 a0 ((a0.toUInt32 >>> ((4 : Int32).toUInt32 &&& Int32.toUInt32 31)).toInt32))) else (jJ6_numberOfLeadingZeros_0f7a4_y10 a0 ((a0.toUInt32 >>> ((8 : Int32).toUInt32 &&& Int32.toUInt32 31)).toInt32))) else (jJ6_numberOfLeadingZeros_0f7a4_y17 a0 ((a0.toUInt32 >>> ((16 : Int32).toUInt32 &&& Int32.toUInt32 31)).toInt32))) else (if a0 = 0 then (32 : Int32) else (0 : Int32)))
set_option maxHeartbeats 4000000 in
set_option maxRecDepth 100000 in
theorem qJ6_numberOfLeadingZeros_0f7a4 (l : Launch) (a0 : Int32) : Met l yJ6_numberOfLeadingZeros_0f7a4 wsJ6_numberOfLeadingZeros_0f7a4 ({ frames := 0, cells := 0, slots := 0, locals := 0 }) (fun v _ => v = ([.int a0] : List Value).toArray) (vp_Si (fun r => r = jJ6_numberOfLeadingZeros_0f7a4 a0)) 0 0 (fun _ => False) := by
  refine Met.ofW (cc := cJ6_numberOfLeadingZeros_0f7a4) (maxL := 2) (ret := some .int) (by decide) rfl ?_
  intro p e s m args below meth c s₁ B hml hv
  subst hv
  have hx := B.exec
  have hb := B.bytes
  have hr := B.returns
  have hts := atoms_spec (ws := wsJ6_numberOfLeadingZeros_0f7a4) B.pre
  have hown : s.vm.findClass RJ6 = some m.cls := findClass_of_methodNamed B.named
  have hlocks := B.notSynchronized
  obtain ⟨JR, hE⟩ : ∃ q, jJ6_numberOfLeadingZeros_0f7a4 a0 = q := ⟨_, rfl⟩
  have hJ := hE
  rw [jJ6_numberOfLeadingZeros_0f7a4] at hJ
  have hl := lv_entry ([.int a0]) (n := 2) (Nat.le_of_ble_eq_true rfl)
  rw [lg_entry_eq]
  generalize (lg_sl ([.int a0]) ++ List.replicate (2 - (lg_sl ([.int a0])).length) Slot.unset).toArray = ls at hl ⊢
  have hl : lv_has ls 2 [(0, .int a0)] := hl
  refine lv_iload_n hx hb dJ6_numberOfLeadingZeros_0f7a4_0 rfl (lv_at hl 0 rfl) ?_
  refine lv_if_gt (tgt := 15) hx hb dJ6_numberOfLeadingZeros_0f7a4_1 (by decide) (fun c1 => ?_) (fun c1 => ?_)
  · skip
    rw [if_pos c1] at hJ
    refine lv_bipush (v := (31 : Int32)) hx hb dJ6_numberOfLeadingZeros_0f7a4_15 (by decide) ?_
    refine lv_istore_n (lv' := [(1, .int (31 : Int32)), (0, .int a0)]) hx hb dJ6_numberOfLeadingZeros_0f7a4_17 rfl hl (by decide) rfl (fun ls hl => ?_)
    refine lv_iload_n hx hb dJ6_numberOfLeadingZeros_0f7a4_18 rfl (lv_at hl 1 rfl) ?_
    refine lv_ldcw (v := (65536 : Int32)) hx hb hown (hts (.constant RJ6 264 (65536)) (by decide +kernel)) dJ6_numberOfLeadingZeros_0f7a4_19 ?_
    refine lv_icmp_lt (tgt := 33) hx hb dJ6_numberOfLeadingZeros_0f7a4_22 (by decide) (fun c2 => ?_) (fun c2 => ?_)
    · skip
      rw [if_pos c2] at hJ
      refine lv_iload_n hx hb dJ6_numberOfLeadingZeros_0f7a4_33 rfl (lv_at hl 1 rfl) ?_
      refine lv_sipush (v := (256 : Int32)) hx hb dJ6_numberOfLeadingZeros_0f7a4_34 (by decide) ?_
      refine lv_icmp_lt (tgt := 48) hx hb dJ6_numberOfLeadingZeros_0f7a4_37 (by decide) (fun c3 => ?_) (fun c3 => ?_)
      · skip
        rw [if_pos c3] at hJ
        refine lv_iload_n hx hb dJ6_numberOfLeadingZeros_0f7a4_48 rfl (lv_at hl 1 rfl) ?_
        refine lv_bipush (v := (16 : Int32)) hx hb dJ6_numberOfLeadingZeros_0f7a4_49 (by decide) ?_
        refine lv_icmp_lt (tgt := 61) hx hb dJ6_numberOfLeadingZeros_0f7a4_51 (by decide) (fun c4 => ?_) (fun c4 => ?_)
        · skip
          rw [if_pos c4] at hJ
          refine lv_iload_n hx hb dJ6_numberOfLeadingZeros_0f7a4_61 rfl (lv_at hl 1 rfl) ?_
          refine lv_iconst (v := (4 : Int32)) hx hb dJ6_numberOfLeadingZeros_0f7a4_62 (by decide) ?_
          refine lv_icmp_lt (tgt := 73) hx hb dJ6_numberOfLeadingZeros_0f7a4_63 (by decide) (fun c5 => ?_) (fun c5 => ?_)
          · skip
            rw [if_pos c5] at hJ
            refine lv_iload_n hx hb dJ6_numberOfLeadingZeros_0f7a4_73 rfl (lv_at hl 0 rfl) ?_
            refine lv_iload_n hx hb dJ6_numberOfLeadingZeros_0f7a4_74 rfl (lv_at hl 1 rfl) ?_
            refine lv_iconst (v := (1 : Int32)) hx hb dJ6_numberOfLeadingZeros_0f7a4_75 (by decide) ?_
            refine lv_iushr (v := (a0.toUInt32 >>> ((1 : Int32).toUInt32 &&& Int32.toUInt32 31)).toInt32) hx hb dJ6_numberOfLeadingZeros_0f7a4_76 rfl ?_
            refine lv_isub hx hb dJ6_numberOfLeadingZeros_0f7a4_77 ?_
            exact W.iret hx hb hr (fun t ht hW => ⟨_, rfl, hJ.trans hE.symm, ht⟩) (fun q h => absurd h List.not_mem_nil) dJ6_numberOfLeadingZeros_0f7a4_78
          · skip
            rw [if_neg c5] at hJ
            refine lv_iinc (v := (29 : Int32)) (lv' := [(1, .int (29 : Int32)), (0, .int a0)]) hx hb dJ6_numberOfLeadingZeros_0f7a4_66 hl (k := 0) rfl (by first | rfl | decide) (by decide) rfl (fun ls hl => ?_)
            refine lv_iload_n hx hb dJ6_numberOfLeadingZeros_0f7a4_69 rfl (lv_at hl 1 rfl) ?_
            refine lv_iconst (v := (2 : Int32)) hx hb dJ6_numberOfLeadingZeros_0f7a4_70 (by decide) ?_
            refine lv_iushr (v := (a0.toUInt32 >>> ((2 : Int32).toUInt32 &&& Int32.toUInt32 31)).toInt32) hx hb dJ6_numberOfLeadingZeros_0f7a4_71 rfl ?_
            refine lv_topi (fun y6 ey6 => ?_)
            rw [← ey6] at hJ
            rw [jJ6_numberOfLeadingZeros_0f7a4_y6] at hJ
            refine lv_istore_n (lv' := [(0, .int y6), (1, .int (29 : Int32))]) hx hb dJ6_numberOfLeadingZeros_0f7a4_72 rfl hl (by decide) rfl (fun ls hl => ?_)
            refine lv_iload_n hx hb dJ6_numberOfLeadingZeros_0f7a4_73 rfl (lv_at hl 1 rfl) ?_
            refine lv_iload_n hx hb dJ6_numberOfLeadingZeros_0f7a4_74 rfl (lv_at hl 0 rfl) ?_
            refine lv_iconst (v := (1 : Int32)) hx hb dJ6_numberOfLeadingZeros_0f7a4_75 (by decide) ?_
            refine lv_iushr (v := (y6.toUInt32 >>> ((1 : Int32).toUInt32 &&& Int32.toUInt32 31)).toInt32) hx hb dJ6_numberOfLeadingZeros_0f7a4_76 rfl ?_
            refine lv_isub hx hb dJ6_numberOfLeadingZeros_0f7a4_77 ?_
            exact W.iret hx hb hr (fun t ht hW => ⟨_, rfl, hJ.trans hE.symm, ht⟩) (fun q h => absurd h List.not_mem_nil) dJ6_numberOfLeadingZeros_0f7a4_78
        · skip
          rw [if_neg c4] at hJ
          refine lv_iinc (v := (27 : Int32)) (lv' := [(1, .int (27 : Int32)), (0, .int a0)]) hx hb dJ6_numberOfLeadingZeros_0f7a4_54 hl (k := 0) rfl (by first | rfl | decide) (by decide) rfl (fun ls hl => ?_)
          refine lv_iload_n hx hb dJ6_numberOfLeadingZeros_0f7a4_57 rfl (lv_at hl 1 rfl) ?_
          refine lv_iconst (v := (4 : Int32)) hx hb dJ6_numberOfLeadingZeros_0f7a4_58 (by decide) ?_
          refine lv_iushr (v := (a0.toUInt32 >>> ((4 : Int32).toUInt32 &&& Int32.toUInt32 31)).toInt32) hx hb dJ6_numberOfLeadingZeros_0f7a4_59 rfl ?_
          refine lv_topi (fun y7 ey7 => ?_)
          rw [← ey7] at hJ
          rw [jJ6_numberOfLeadingZeros_0f7a4_y7] at hJ
          refine lv_istore_n (lv' := [(0, .int y7), (1, .int (27 : Int32))]) hx hb dJ6_numberOfLeadingZeros_0f7a4_60 rfl hl (by decide) rfl (fun ls hl => ?_)
          refine lv_iload_n hx hb dJ6_numberOfLeadingZeros_0f7a4_61 rfl (lv_at hl 0 rfl) ?_
          refine lv_iconst (v := (4 : Int32)) hx hb dJ6_numberOfLeadingZeros_0f7a4_62 (by decide) ?_
          refine lv_icmp_lt (tgt := 73) hx hb dJ6_numberOfLeadingZeros_0f7a4_63 (by decide) (fun c8 => ?_) (fun c8 => ?_)
          · skip
            rw [if_pos c8] at hJ
            refine lv_iload_n hx hb dJ6_numberOfLeadingZeros_0f7a4_73 rfl (lv_at hl 1 rfl) ?_
            refine lv_iload_n hx hb dJ6_numberOfLeadingZeros_0f7a4_74 rfl (lv_at hl 0 rfl) ?_
            refine lv_iconst (v := (1 : Int32)) hx hb dJ6_numberOfLeadingZeros_0f7a4_75 (by decide) ?_
            refine lv_iushr (v := (y7.toUInt32 >>> ((1 : Int32).toUInt32 &&& Int32.toUInt32 31)).toInt32) hx hb dJ6_numberOfLeadingZeros_0f7a4_76 rfl ?_
            refine lv_isub hx hb dJ6_numberOfLeadingZeros_0f7a4_77 ?_
            exact W.iret hx hb hr (fun t ht hW => ⟨_, rfl, hJ.trans hE.symm, ht⟩) (fun q h => absurd h List.not_mem_nil) dJ6_numberOfLeadingZeros_0f7a4_78
          · skip
            rw [if_neg c8] at hJ
            refine lv_iinc (v := (25 : Int32)) (lv' := [(1, .int (25 : Int32)), (0, .int y7)]) hx hb dJ6_numberOfLeadingZeros_0f7a4_66 hl (k := 1) rfl (by first | rfl | decide) (by decide) rfl (fun ls hl => ?_)
            refine lv_iload_n hx hb dJ6_numberOfLeadingZeros_0f7a4_69 rfl (lv_at hl 1 rfl) ?_
            refine lv_iconst (v := (2 : Int32)) hx hb dJ6_numberOfLeadingZeros_0f7a4_70 (by decide) ?_
            refine lv_iushr (v := (y7.toUInt32 >>> ((2 : Int32).toUInt32 &&& Int32.toUInt32 31)).toInt32) hx hb dJ6_numberOfLeadingZeros_0f7a4_71 rfl ?_
            refine lv_topi (fun y9 ey9 => ?_)
            rw [← ey9] at hJ
            rw [jJ6_numberOfLeadingZeros_0f7a4_y9] at hJ
            refine lv_istore_n (lv' := [(0, .int y9), (1, .int (25 : Int32))]) hx hb dJ6_numberOfLeadingZeros_0f7a4_72 rfl hl (by decide) rfl (fun ls hl => ?_)
            refine lv_iload_n hx hb dJ6_numberOfLeadingZeros_0f7a4_73 rfl (lv_at hl 1 rfl) ?_
            refine lv_iload_n hx hb dJ6_numberOfLeadingZeros_0f7a4_74 rfl (lv_at hl 0 rfl) ?_
            refine lv_iconst (v := (1 : Int32)) hx hb dJ6_numberOfLeadingZeros_0f7a4_75 (by decide) ?_
            refine lv_iushr (v := (y9.toUInt32 >>> ((1 : Int32).toUInt32 &&& Int32.toUInt32 31)).toInt32) hx hb dJ6_numberOfLeadingZeros_0f7a4_76 rfl ?_
            refine lv_isub hx hb dJ6_numberOfLeadingZeros_0f7a4_77 ?_
            exact W.iret hx hb hr (fun t ht hW => ⟨_, rfl, hJ.trans hE.symm, ht⟩) (fun q h => absurd h List.not_mem_nil) dJ6_numberOfLeadingZeros_0f7a4_78
      · skip
        rw [if_neg c3] at hJ
        refine lv_iinc (v := (23 : Int32)) (lv' := [(1, .int (23 : Int32)), (0, .int a0)]) hx hb dJ6_numberOfLeadingZeros_0f7a4_40 hl (k := 0) rfl (by first | rfl | decide) (by decide) rfl (fun ls hl => ?_)
        refine lv_iload_n hx hb dJ6_numberOfLeadingZeros_0f7a4_43 rfl (lv_at hl 1 rfl) ?_
        refine lv_bipush (v := (8 : Int32)) hx hb dJ6_numberOfLeadingZeros_0f7a4_44 (by decide) ?_
        refine lv_iushr (v := (a0.toUInt32 >>> ((8 : Int32).toUInt32 &&& Int32.toUInt32 31)).toInt32) hx hb dJ6_numberOfLeadingZeros_0f7a4_46 rfl ?_
        refine lv_topi (fun y10 ey10 => ?_)
        rw [← ey10] at hJ
        rw [jJ6_numberOfLeadingZeros_0f7a4_y10] at hJ
        refine lv_istore_n (lv' := [(0, .int y10), (1, .int (23 : Int32))]) hx hb dJ6_numberOfLeadingZeros_0f7a4_47 rfl hl (by decide) rfl (fun ls hl => ?_)
        refine lv_iload_n hx hb dJ6_numberOfLeadingZeros_0f7a4_48 rfl (lv_at hl 0 rfl) ?_
        refine lv_bipush (v := (16 : Int32)) hx hb dJ6_numberOfLeadingZeros_0f7a4_49 (by decide) ?_
        refine lv_icmp_lt (tgt := 61) hx hb dJ6_numberOfLeadingZeros_0f7a4_51 (by decide) (fun c11 => ?_) (fun c11 => ?_)
        · skip
          rw [if_pos c11] at hJ
          refine lv_iload_n hx hb dJ6_numberOfLeadingZeros_0f7a4_61 rfl (lv_at hl 0 rfl) ?_
          refine lv_iconst (v := (4 : Int32)) hx hb dJ6_numberOfLeadingZeros_0f7a4_62 (by decide) ?_
          refine lv_icmp_lt (tgt := 73) hx hb dJ6_numberOfLeadingZeros_0f7a4_63 (by decide) (fun c12 => ?_) (fun c12 => ?_)
          · skip
            rw [if_pos c12] at hJ
            refine lv_iload_n hx hb dJ6_numberOfLeadingZeros_0f7a4_73 rfl (lv_at hl 1 rfl) ?_
            refine lv_iload_n hx hb dJ6_numberOfLeadingZeros_0f7a4_74 rfl (lv_at hl 0 rfl) ?_
            refine lv_iconst (v := (1 : Int32)) hx hb dJ6_numberOfLeadingZeros_0f7a4_75 (by decide) ?_
            refine lv_iushr (v := (y10.toUInt32 >>> ((1 : Int32).toUInt32 &&& Int32.toUInt32 31)).toInt32) hx hb dJ6_numberOfLeadingZeros_0f7a4_76 rfl ?_
            refine lv_isub hx hb dJ6_numberOfLeadingZeros_0f7a4_77 ?_
            exact W.iret hx hb hr (fun t ht hW => ⟨_, rfl, hJ.trans hE.symm, ht⟩) (fun q h => absurd h List.not_mem_nil) dJ6_numberOfLeadingZeros_0f7a4_78
          · skip
            rw [if_neg c12] at hJ
            refine lv_iinc (v := (21 : Int32)) (lv' := [(1, .int (21 : Int32)), (0, .int y10)]) hx hb dJ6_numberOfLeadingZeros_0f7a4_66 hl (k := 1) rfl (by first | rfl | decide) (by decide) rfl (fun ls hl => ?_)
            refine lv_iload_n hx hb dJ6_numberOfLeadingZeros_0f7a4_69 rfl (lv_at hl 1 rfl) ?_
            refine lv_iconst (v := (2 : Int32)) hx hb dJ6_numberOfLeadingZeros_0f7a4_70 (by decide) ?_
            refine lv_iushr (v := (y10.toUInt32 >>> ((2 : Int32).toUInt32 &&& Int32.toUInt32 31)).toInt32) hx hb dJ6_numberOfLeadingZeros_0f7a4_71 rfl ?_
            refine lv_topi (fun y13 ey13 => ?_)
            rw [← ey13] at hJ
            rw [jJ6_numberOfLeadingZeros_0f7a4_y13] at hJ
            refine lv_istore_n (lv' := [(0, .int y13), (1, .int (21 : Int32))]) hx hb dJ6_numberOfLeadingZeros_0f7a4_72 rfl hl (by decide) rfl (fun ls hl => ?_)
            refine lv_iload_n hx hb dJ6_numberOfLeadingZeros_0f7a4_73 rfl (lv_at hl 1 rfl) ?_
            refine lv_iload_n hx hb dJ6_numberOfLeadingZeros_0f7a4_74 rfl (lv_at hl 0 rfl) ?_
            refine lv_iconst (v := (1 : Int32)) hx hb dJ6_numberOfLeadingZeros_0f7a4_75 (by decide) ?_
            refine lv_iushr (v := (y13.toUInt32 >>> ((1 : Int32).toUInt32 &&& Int32.toUInt32 31)).toInt32) hx hb dJ6_numberOfLeadingZeros_0f7a4_76 rfl ?_
            refine lv_isub hx hb dJ6_numberOfLeadingZeros_0f7a4_77 ?_
            exact W.iret hx hb hr (fun t ht hW => ⟨_, rfl, hJ.trans hE.symm, ht⟩) (fun q h => absurd h List.not_mem_nil) dJ6_numberOfLeadingZeros_0f7a4_78
        · skip
          rw [if_neg c11] at hJ
          refine lv_iinc (v := (19 : Int32)) (lv' := [(1, .int (19 : Int32)), (0, .int y10)]) hx hb dJ6_numberOfLeadingZeros_0f7a4_54 hl (k := 1) rfl (by first | rfl | decide) (by decide) rfl (fun ls hl => ?_)
          refine lv_iload_n hx hb dJ6_numberOfLeadingZeros_0f7a4_57 rfl (lv_at hl 1 rfl) ?_
          refine lv_iconst (v := (4 : Int32)) hx hb dJ6_numberOfLeadingZeros_0f7a4_58 (by decide) ?_
          refine lv_iushr (v := (y10.toUInt32 >>> ((4 : Int32).toUInt32 &&& Int32.toUInt32 31)).toInt32) hx hb dJ6_numberOfLeadingZeros_0f7a4_59 rfl ?_
          refine lv_topi (fun y14 ey14 => ?_)
          rw [← ey14] at hJ
          rw [jJ6_numberOfLeadingZeros_0f7a4_y14] at hJ
          refine lv_istore_n (lv' := [(0, .int y14), (1, .int (19 : Int32))]) hx hb dJ6_numberOfLeadingZeros_0f7a4_60 rfl hl (by decide) rfl (fun ls hl => ?_)
          refine lv_iload_n hx hb dJ6_numberOfLeadingZeros_0f7a4_61 rfl (lv_at hl 0 rfl) ?_
          refine lv_iconst (v := (4 : Int32)) hx hb dJ6_numberOfLeadingZeros_0f7a4_62 (by decide) ?_
          refine lv_icmp_lt (tgt := 73) hx hb dJ6_numberOfLeadingZeros_0f7a4_63 (by decide) (fun c15 => ?_) (fun c15 => ?_)
          · skip
            rw [if_pos c15] at hJ
            refine lv_iload_n hx hb dJ6_numberOfLeadingZeros_0f7a4_73 rfl (lv_at hl 1 rfl) ?_
            refine lv_iload_n hx hb dJ6_numberOfLeadingZeros_0f7a4_74 rfl (lv_at hl 0 rfl) ?_
            refine lv_iconst (v := (1 : Int32)) hx hb dJ6_numberOfLeadingZeros_0f7a4_75 (by decide) ?_
            refine lv_iushr (v := (y14.toUInt32 >>> ((1 : Int32).toUInt32 &&& Int32.toUInt32 31)).toInt32) hx hb dJ6_numberOfLeadingZeros_0f7a4_76 rfl ?_
            refine lv_isub hx hb dJ6_numberOfLeadingZeros_0f7a4_77 ?_
            exact W.iret hx hb hr (fun t ht hW => ⟨_, rfl, hJ.trans hE.symm, ht⟩) (fun q h => absurd h List.not_mem_nil) dJ6_numberOfLeadingZeros_0f7a4_78
          · skip
            rw [if_neg c15] at hJ
            refine lv_iinc (v := (17 : Int32)) (lv' := [(1, .int (17 : Int32)), (0, .int y14)]) hx hb dJ6_numberOfLeadingZeros_0f7a4_66 hl (k := 1) rfl (by first | rfl | decide) (by decide) rfl (fun ls hl => ?_)
            refine lv_iload_n hx hb dJ6_numberOfLeadingZeros_0f7a4_69 rfl (lv_at hl 1 rfl) ?_
            refine lv_iconst (v := (2 : Int32)) hx hb dJ6_numberOfLeadingZeros_0f7a4_70 (by decide) ?_
            refine lv_iushr (v := (y14.toUInt32 >>> ((2 : Int32).toUInt32 &&& Int32.toUInt32 31)).toInt32) hx hb dJ6_numberOfLeadingZeros_0f7a4_71 rfl ?_
            refine lv_topi (fun y16 ey16 => ?_)
            rw [← ey16] at hJ
            rw [jJ6_numberOfLeadingZeros_0f7a4_y16] at hJ
            refine lv_istore_n (lv' := [(0, .int y16), (1, .int (17 : Int32))]) hx hb dJ6_numberOfLeadingZeros_0f7a4_72 rfl hl (by decide) rfl (fun ls hl => ?_)
            refine lv_iload_n hx hb dJ6_numberOfLeadingZeros_0f7a4_73 rfl (lv_at hl 1 rfl) ?_
            refine lv_iload_n hx hb dJ6_numberOfLeadingZeros_0f7a4_74 rfl (lv_at hl 0 rfl) ?_
            refine lv_iconst (v := (1 : Int32)) hx hb dJ6_numberOfLeadingZeros_0f7a4_75 (by decide) ?_
            refine lv_iushr (v := (y16.toUInt32 >>> ((1 : Int32).toUInt32 &&& Int32.toUInt32 31)).toInt32) hx hb dJ6_numberOfLeadingZeros_0f7a4_76 rfl ?_
            refine lv_isub hx hb dJ6_numberOfLeadingZeros_0f7a4_77 ?_
            exact W.iret hx hb hr (fun t ht hW => ⟨_, rfl, hJ.trans hE.symm, ht⟩) (fun q h => absurd h List.not_mem_nil) dJ6_numberOfLeadingZeros_0f7a4_78
    · skip
      rw [if_neg c2] at hJ
      refine lv_iinc (v := (15 : Int32)) (lv' := [(1, .int (15 : Int32)), (0, .int a0)]) hx hb dJ6_numberOfLeadingZeros_0f7a4_25 hl (k := 0) rfl (by first | rfl | decide) (by decide) rfl (fun ls hl => ?_)
      refine lv_iload_n hx hb dJ6_numberOfLeadingZeros_0f7a4_28 rfl (lv_at hl 1 rfl) ?_
      refine lv_bipush (v := (16 : Int32)) hx hb dJ6_numberOfLeadingZeros_0f7a4_29 (by decide) ?_
      refine lv_iushr (v := (a0.toUInt32 >>> ((16 : Int32).toUInt32 &&& Int32.toUInt32 31)).toInt32) hx hb dJ6_numberOfLeadingZeros_0f7a4_31 rfl ?_
      refine lv_topi (fun y17 ey17 => ?_)
      rw [← ey17] at hJ
      rw [jJ6_numberOfLeadingZeros_0f7a4_y17] at hJ
      refine lv_istore_n (lv' := [(0, .int y17), (1, .int (15 : Int32))]) hx hb dJ6_numberOfLeadingZeros_0f7a4_32 rfl hl (by decide) rfl (fun ls hl => ?_)
      refine lv_iload_n hx hb dJ6_numberOfLeadingZeros_0f7a4_33 rfl (lv_at hl 0 rfl) ?_
      refine lv_sipush (v := (256 : Int32)) hx hb dJ6_numberOfLeadingZeros_0f7a4_34 (by decide) ?_
      refine lv_icmp_lt (tgt := 48) hx hb dJ6_numberOfLeadingZeros_0f7a4_37 (by decide) (fun c18 => ?_) (fun c18 => ?_)
      · skip
        rw [if_pos c18] at hJ
        refine lv_iload_n hx hb dJ6_numberOfLeadingZeros_0f7a4_48 rfl (lv_at hl 0 rfl) ?_
        refine lv_bipush (v := (16 : Int32)) hx hb dJ6_numberOfLeadingZeros_0f7a4_49 (by decide) ?_
        refine lv_icmp_lt (tgt := 61) hx hb dJ6_numberOfLeadingZeros_0f7a4_51 (by decide) (fun c19 => ?_) (fun c19 => ?_)
        · skip
          rw [if_pos c19] at hJ
          refine lv_iload_n hx hb dJ6_numberOfLeadingZeros_0f7a4_61 rfl (lv_at hl 0 rfl) ?_
          refine lv_iconst (v := (4 : Int32)) hx hb dJ6_numberOfLeadingZeros_0f7a4_62 (by decide) ?_
          refine lv_icmp_lt (tgt := 73) hx hb dJ6_numberOfLeadingZeros_0f7a4_63 (by decide) (fun c20 => ?_) (fun c20 => ?_)
          · skip
            rw [if_pos c20] at hJ
            refine lv_iload_n hx hb dJ6_numberOfLeadingZeros_0f7a4_73 rfl (lv_at hl 1 rfl) ?_
            refine lv_iload_n hx hb dJ6_numberOfLeadingZeros_0f7a4_74 rfl (lv_at hl 0 rfl) ?_
            refine lv_iconst (v := (1 : Int32)) hx hb dJ6_numberOfLeadingZeros_0f7a4_75 (by decide) ?_
            refine lv_iushr (v := (y17.toUInt32 >>> ((1 : Int32).toUInt32 &&& Int32.toUInt32 31)).toInt32) hx hb dJ6_numberOfLeadingZeros_0f7a4_76 rfl ?_
            refine lv_isub hx hb dJ6_numberOfLeadingZeros_0f7a4_77 ?_
            exact W.iret hx hb hr (fun t ht hW => ⟨_, rfl, hJ.trans hE.symm, ht⟩) (fun q h => absurd h List.not_mem_nil) dJ6_numberOfLeadingZeros_0f7a4_78
          · skip
            rw [if_neg c20] at hJ
            refine lv_iinc (v := (13 : Int32)) (lv' := [(1, .int (13 : Int32)), (0, .int y17)]) hx hb dJ6_numberOfLeadingZeros_0f7a4_66 hl (k := 1) rfl (by first | rfl | decide) (by decide) rfl (fun ls hl => ?_)
            refine lv_iload_n hx hb dJ6_numberOfLeadingZeros_0f7a4_69 rfl (lv_at hl 1 rfl) ?_
            refine lv_iconst (v := (2 : Int32)) hx hb dJ6_numberOfLeadingZeros_0f7a4_70 (by decide) ?_
            refine lv_iushr (v := (y17.toUInt32 >>> ((2 : Int32).toUInt32 &&& Int32.toUInt32 31)).toInt32) hx hb dJ6_numberOfLeadingZeros_0f7a4_71 rfl ?_
            refine lv_topi (fun y21 ey21 => ?_)
            rw [← ey21] at hJ
            rw [jJ6_numberOfLeadingZeros_0f7a4_y21] at hJ
            refine lv_istore_n (lv' := [(0, .int y21), (1, .int (13 : Int32))]) hx hb dJ6_numberOfLeadingZeros_0f7a4_72 rfl hl (by decide) rfl (fun ls hl => ?_)
            refine lv_iload_n hx hb dJ6_numberOfLeadingZeros_0f7a4_73 rfl (lv_at hl 1 rfl) ?_
            refine lv_iload_n hx hb dJ6_numberOfLeadingZeros_0f7a4_74 rfl (lv_at hl 0 rfl) ?_
            refine lv_iconst (v := (1 : Int32)) hx hb dJ6_numberOfLeadingZeros_0f7a4_75 (by decide) ?_
            refine lv_iushr (v := (y21.toUInt32 >>> ((1 : Int32).toUInt32 &&& Int32.toUInt32 31)).toInt32) hx hb dJ6_numberOfLeadingZeros_0f7a4_76 rfl ?_
            refine lv_isub hx hb dJ6_numberOfLeadingZeros_0f7a4_77 ?_
            exact W.iret hx hb hr (fun t ht hW => ⟨_, rfl, hJ.trans hE.symm, ht⟩) (fun q h => absurd h List.not_mem_nil) dJ6_numberOfLeadingZeros_0f7a4_78
        · skip
          rw [if_neg c19] at hJ
          refine lv_iinc (v := (11 : Int32)) (lv' := [(1, .int (11 : Int32)), (0, .int y17)]) hx hb dJ6_numberOfLeadingZeros_0f7a4_54 hl (k := 1) rfl (by first | rfl | decide) (by decide) rfl (fun ls hl => ?_)
          refine lv_iload_n hx hb dJ6_numberOfLeadingZeros_0f7a4_57 rfl (lv_at hl 1 rfl) ?_
          refine lv_iconst (v := (4 : Int32)) hx hb dJ6_numberOfLeadingZeros_0f7a4_58 (by decide) ?_
          refine lv_iushr (v := (y17.toUInt32 >>> ((4 : Int32).toUInt32 &&& Int32.toUInt32 31)).toInt32) hx hb dJ6_numberOfLeadingZeros_0f7a4_59 rfl ?_
          refine lv_topi (fun y22 ey22 => ?_)
          rw [← ey22] at hJ
          rw [jJ6_numberOfLeadingZeros_0f7a4_y22] at hJ
          refine lv_istore_n (lv' := [(0, .int y22), (1, .int (11 : Int32))]) hx hb dJ6_numberOfLeadingZeros_0f7a4_60 rfl hl (by decide) rfl (fun ls hl => ?_)
          refine lv_iload_n hx hb dJ6_numberOfLeadingZeros_0f7a4_61 rfl (lv_at hl 0 rfl) ?_
          refine lv_iconst (v := (4 : Int32)) hx hb dJ6_numberOfLeadingZeros_0f7a4_62 (by decide) ?_
          refine lv_icmp_lt (tgt := 73) hx hb dJ6_numberOfLeadingZeros_0f7a4_63 (by decide) (fun c23 => ?_) (fun c23 => ?_)
          · skip
            rw [if_pos c23] at hJ
            refine lv_iload_n hx hb dJ6_numberOfLeadingZeros_0f7a4_73 rfl (lv_at hl 1 rfl) ?_
            refine lv_iload_n hx hb dJ6_numberOfLeadingZeros_0f7a4_74 rfl (lv_at hl 0 rfl) ?_
            refine lv_iconst (v := (1 : Int32)) hx hb dJ6_numberOfLeadingZeros_0f7a4_75 (by decide) ?_
            refine lv_iushr (v := (y22.toUInt32 >>> ((1 : Int32).toUInt32 &&& Int32.toUInt32 31)).toInt32) hx hb dJ6_numberOfLeadingZeros_0f7a4_76 rfl ?_
            refine lv_isub hx hb dJ6_numberOfLeadingZeros_0f7a4_77 ?_
            exact W.iret hx hb hr (fun t ht hW => ⟨_, rfl, hJ.trans hE.symm, ht⟩) (fun q h => absurd h List.not_mem_nil) dJ6_numberOfLeadingZeros_0f7a4_78
          · skip
            rw [if_neg c23] at hJ
            refine lv_iinc (v := (9 : Int32)) (lv' := [(1, .int (9 : Int32)), (0, .int y22)]) hx hb dJ6_numberOfLeadingZeros_0f7a4_66 hl (k := 1) rfl (by first | rfl | decide) (by decide) rfl (fun ls hl => ?_)
            refine lv_iload_n hx hb dJ6_numberOfLeadingZeros_0f7a4_69 rfl (lv_at hl 1 rfl) ?_
            refine lv_iconst (v := (2 : Int32)) hx hb dJ6_numberOfLeadingZeros_0f7a4_70 (by decide) ?_
            refine lv_iushr (v := (y22.toUInt32 >>> ((2 : Int32).toUInt32 &&& Int32.toUInt32 31)).toInt32) hx hb dJ6_numberOfLeadingZeros_0f7a4_71 rfl ?_
            refine lv_topi (fun y24 ey24 => ?_)
            rw [← ey24] at hJ
            rw [jJ6_numberOfLeadingZeros_0f7a4_y24] at hJ
            refine lv_istore_n (lv' := [(0, .int y24), (1, .int (9 : Int32))]) hx hb dJ6_numberOfLeadingZeros_0f7a4_72 rfl hl (by decide) rfl (fun ls hl => ?_)
            refine lv_iload_n hx hb dJ6_numberOfLeadingZeros_0f7a4_73 rfl (lv_at hl 1 rfl) ?_
            refine lv_iload_n hx hb dJ6_numberOfLeadingZeros_0f7a4_74 rfl (lv_at hl 0 rfl) ?_
            refine lv_iconst (v := (1 : Int32)) hx hb dJ6_numberOfLeadingZeros_0f7a4_75 (by decide) ?_
            refine lv_iushr (v := (y24.toUInt32 >>> ((1 : Int32).toUInt32 &&& Int32.toUInt32 31)).toInt32) hx hb dJ6_numberOfLeadingZeros_0f7a4_76 rfl ?_
            refine lv_isub hx hb dJ6_numberOfLeadingZeros_0f7a4_77 ?_
            exact W.iret hx hb hr (fun t ht hW => ⟨_, rfl, hJ.trans hE.symm, ht⟩) (fun q h => absurd h List.not_mem_nil) dJ6_numberOfLeadingZeros_0f7a4_78
      · skip
        rw [if_neg c18] at hJ
        refine lv_iinc (v := (7 : Int32)) (lv' := [(1, .int (7 : Int32)), (0, .int y17)]) hx hb dJ6_numberOfLeadingZeros_0f7a4_40 hl (k := 1) rfl (by first | rfl | decide) (by decide) rfl (fun ls hl => ?_)
        refine lv_iload_n hx hb dJ6_numberOfLeadingZeros_0f7a4_43 rfl (lv_at hl 1 rfl) ?_
        refine lv_bipush (v := (8 : Int32)) hx hb dJ6_numberOfLeadingZeros_0f7a4_44 (by decide) ?_
        refine lv_iushr (v := (y17.toUInt32 >>> ((8 : Int32).toUInt32 &&& Int32.toUInt32 31)).toInt32) hx hb dJ6_numberOfLeadingZeros_0f7a4_46 rfl ?_
        refine lv_topi (fun y25 ey25 => ?_)
        rw [← ey25] at hJ
        rw [jJ6_numberOfLeadingZeros_0f7a4_y25] at hJ
        refine lv_istore_n (lv' := [(0, .int y25), (1, .int (7 : Int32))]) hx hb dJ6_numberOfLeadingZeros_0f7a4_47 rfl hl (by decide) rfl (fun ls hl => ?_)
        refine lv_iload_n hx hb dJ6_numberOfLeadingZeros_0f7a4_48 rfl (lv_at hl 0 rfl) ?_
        refine lv_bipush (v := (16 : Int32)) hx hb dJ6_numberOfLeadingZeros_0f7a4_49 (by decide) ?_
        refine lv_icmp_lt (tgt := 61) hx hb dJ6_numberOfLeadingZeros_0f7a4_51 (by decide) (fun c26 => ?_) (fun c26 => ?_)
        · skip
          rw [if_pos c26] at hJ
          refine lv_iload_n hx hb dJ6_numberOfLeadingZeros_0f7a4_61 rfl (lv_at hl 0 rfl) ?_
          refine lv_iconst (v := (4 : Int32)) hx hb dJ6_numberOfLeadingZeros_0f7a4_62 (by decide) ?_
          refine lv_icmp_lt (tgt := 73) hx hb dJ6_numberOfLeadingZeros_0f7a4_63 (by decide) (fun c27 => ?_) (fun c27 => ?_)
          · skip
            rw [if_pos c27] at hJ
            refine lv_iload_n hx hb dJ6_numberOfLeadingZeros_0f7a4_73 rfl (lv_at hl 1 rfl) ?_
            refine lv_iload_n hx hb dJ6_numberOfLeadingZeros_0f7a4_74 rfl (lv_at hl 0 rfl) ?_
            refine lv_iconst (v := (1 : Int32)) hx hb dJ6_numberOfLeadingZeros_0f7a4_75 (by decide) ?_
            refine lv_iushr (v := (y25.toUInt32 >>> ((1 : Int32).toUInt32 &&& Int32.toUInt32 31)).toInt32) hx hb dJ6_numberOfLeadingZeros_0f7a4_76 rfl ?_
            refine lv_isub hx hb dJ6_numberOfLeadingZeros_0f7a4_77 ?_
            exact W.iret hx hb hr (fun t ht hW => ⟨_, rfl, hJ.trans hE.symm, ht⟩) (fun q h => absurd h List.not_mem_nil) dJ6_numberOfLeadingZeros_0f7a4_78
          · skip
            rw [if_neg c27] at hJ
            refine lv_iinc (v := (5 : Int32)) (lv' := [(1, .int (5 : Int32)), (0, .int y25)]) hx hb dJ6_numberOfLeadingZeros_0f7a4_66 hl (k := 1) rfl (by first | rfl | decide) (by decide) rfl (fun ls hl => ?_)
            refine lv_iload_n hx hb dJ6_numberOfLeadingZeros_0f7a4_69 rfl (lv_at hl 1 rfl) ?_
            refine lv_iconst (v := (2 : Int32)) hx hb dJ6_numberOfLeadingZeros_0f7a4_70 (by decide) ?_
            refine lv_iushr (v := (y25.toUInt32 >>> ((2 : Int32).toUInt32 &&& Int32.toUInt32 31)).toInt32) hx hb dJ6_numberOfLeadingZeros_0f7a4_71 rfl ?_
            refine lv_topi (fun y28 ey28 => ?_)
            rw [← ey28] at hJ
            rw [jJ6_numberOfLeadingZeros_0f7a4_y28] at hJ
            refine lv_istore_n (lv' := [(0, .int y28), (1, .int (5 : Int32))]) hx hb dJ6_numberOfLeadingZeros_0f7a4_72 rfl hl (by decide) rfl (fun ls hl => ?_)
            refine lv_iload_n hx hb dJ6_numberOfLeadingZeros_0f7a4_73 rfl (lv_at hl 1 rfl) ?_
            refine lv_iload_n hx hb dJ6_numberOfLeadingZeros_0f7a4_74 rfl (lv_at hl 0 rfl) ?_
            refine lv_iconst (v := (1 : Int32)) hx hb dJ6_numberOfLeadingZeros_0f7a4_75 (by decide) ?_
            refine lv_iushr (v := (y28.toUInt32 >>> ((1 : Int32).toUInt32 &&& Int32.toUInt32 31)).toInt32) hx hb dJ6_numberOfLeadingZeros_0f7a4_76 rfl ?_
            refine lv_isub hx hb dJ6_numberOfLeadingZeros_0f7a4_77 ?_
            exact W.iret hx hb hr (fun t ht hW => ⟨_, rfl, hJ.trans hE.symm, ht⟩) (fun q h => absurd h List.not_mem_nil) dJ6_numberOfLeadingZeros_0f7a4_78
        · skip
          rw [if_neg c26] at hJ
          refine lv_iinc (v := (3 : Int32)) (lv' := [(1, .int (3 : Int32)), (0, .int y25)]) hx hb dJ6_numberOfLeadingZeros_0f7a4_54 hl (k := 1) rfl (by first | rfl | decide) (by decide) rfl (fun ls hl => ?_)
          refine lv_iload_n hx hb dJ6_numberOfLeadingZeros_0f7a4_57 rfl (lv_at hl 1 rfl) ?_
          refine lv_iconst (v := (4 : Int32)) hx hb dJ6_numberOfLeadingZeros_0f7a4_58 (by decide) ?_
          refine lv_iushr (v := (y25.toUInt32 >>> ((4 : Int32).toUInt32 &&& Int32.toUInt32 31)).toInt32) hx hb dJ6_numberOfLeadingZeros_0f7a4_59 rfl ?_
          refine lv_topi (fun y29 ey29 => ?_)
          rw [← ey29] at hJ
          rw [jJ6_numberOfLeadingZeros_0f7a4_y29] at hJ
          refine lv_istore_n (lv' := [(0, .int y29), (1, .int (3 : Int32))]) hx hb dJ6_numberOfLeadingZeros_0f7a4_60 rfl hl (by decide) rfl (fun ls hl => ?_)
          refine lv_iload_n hx hb dJ6_numberOfLeadingZeros_0f7a4_61 rfl (lv_at hl 0 rfl) ?_
          refine lv_iconst (v := (4 : Int32)) hx hb dJ6_numberOfLeadingZeros_0f7a4_62 (by decide) ?_
          refine lv_icmp_lt (tgt := 73) hx hb dJ6_numberOfLeadingZeros_0f7a4_63 (by decide) (fun c30 => ?_) (fun c30 => ?_)
          · skip
            rw [if_pos c30] at hJ
            refine lv_iload_n hx hb dJ6_numberOfLeadingZeros_0f7a4_73 rfl (lv_at hl 1 rfl) ?_
            refine lv_iload_n hx hb dJ6_numberOfLeadingZeros_0f7a4_74 rfl (lv_at hl 0 rfl) ?_
            refine lv_iconst (v := (1 : Int32)) hx hb dJ6_numberOfLeadingZeros_0f7a4_75 (by decide) ?_
            refine lv_iushr (v := (y29.toUInt32 >>> ((1 : Int32).toUInt32 &&& Int32.toUInt32 31)).toInt32) hx hb dJ6_numberOfLeadingZeros_0f7a4_76 rfl ?_
            refine lv_isub hx hb dJ6_numberOfLeadingZeros_0f7a4_77 ?_
            exact W.iret hx hb hr (fun t ht hW => ⟨_, rfl, hJ.trans hE.symm, ht⟩) (fun q h => absurd h List.not_mem_nil) dJ6_numberOfLeadingZeros_0f7a4_78
          · skip
            rw [if_neg c30] at hJ
            refine lv_iinc (v := (1 : Int32)) (lv' := [(1, .int (1 : Int32)), (0, .int y29)]) hx hb dJ6_numberOfLeadingZeros_0f7a4_66 hl (k := 1) rfl (by first | rfl | decide) (by decide) rfl (fun ls hl => ?_)
            refine lv_iload_n hx hb dJ6_numberOfLeadingZeros_0f7a4_69 rfl (lv_at hl 1 rfl) ?_
            refine lv_iconst (v := (2 : Int32)) hx hb dJ6_numberOfLeadingZeros_0f7a4_70 (by decide) ?_
            refine lv_iushr (v := (y29.toUInt32 >>> ((2 : Int32).toUInt32 &&& Int32.toUInt32 31)).toInt32) hx hb dJ6_numberOfLeadingZeros_0f7a4_71 rfl ?_
            refine lv_topi (fun y31 ey31 => ?_)
            rw [← ey31] at hJ
            rw [jJ6_numberOfLeadingZeros_0f7a4_y31] at hJ
            refine lv_istore_n (lv' := [(0, .int y31), (1, .int (1 : Int32))]) hx hb dJ6_numberOfLeadingZeros_0f7a4_72 rfl hl (by decide) rfl (fun ls hl => ?_)
            refine lv_iload_n hx hb dJ6_numberOfLeadingZeros_0f7a4_73 rfl (lv_at hl 1 rfl) ?_
            refine lv_iload_n hx hb dJ6_numberOfLeadingZeros_0f7a4_74 rfl (lv_at hl 0 rfl) ?_
            refine lv_iconst (v := (1 : Int32)) hx hb dJ6_numberOfLeadingZeros_0f7a4_75 (by decide) ?_
            refine lv_iushr (v := (y31.toUInt32 >>> ((1 : Int32).toUInt32 &&& Int32.toUInt32 31)).toInt32) hx hb dJ6_numberOfLeadingZeros_0f7a4_76 rfl ?_
            refine lv_isub hx hb dJ6_numberOfLeadingZeros_0f7a4_77 ?_
            exact W.iret hx hb hr (fun t ht hW => ⟨_, rfl, hJ.trans hE.symm, ht⟩) (fun q h => absurd h List.not_mem_nil) dJ6_numberOfLeadingZeros_0f7a4_78
  · skip
    rw [if_neg c1] at hJ
    refine lv_iload_n hx hb dJ6_numberOfLeadingZeros_0f7a4_4 rfl (lv_at hl 0 rfl) ?_
    refine lv_if_ne (tgt := 13) hx hb dJ6_numberOfLeadingZeros_0f7a4_5 (by decide) (fun c32 => ?_) (fun c32 => ?_)
    · skip
      rw [if_neg c32] at hJ
      refine lv_iconst (v := (0 : Int32)) hx hb dJ6_numberOfLeadingZeros_0f7a4_13 (by decide) ?_
      exact W.iret hx hb hr (fun t ht hW => ⟨_, rfl, hJ.trans hE.symm, ht⟩) (fun q h => absurd h List.not_mem_nil) dJ6_numberOfLeadingZeros_0f7a4_14
    · skip
      rw [if_pos c32] at hJ
      refine lv_bipush (v := (32 : Int32)) hx hb dJ6_numberOfLeadingZeros_0f7a4_8 (by decide) ?_
      refine lv_goto (tgt := 14) hx hb dJ6_numberOfLeadingZeros_0f7a4_10 (by decide) ?_
      exact W.iret hx hb hr (fun t ht hW => ⟨_, rfl, hJ.trans hE.symm, ht⟩) (fun q h => absurd h List.not_mem_nil) dJ6_numberOfLeadingZeros_0f7a4_14
def jJ13_numberOfLeadingZeros_95d88_y1 (a0 : Int64) (y1 : Int32) : Int32 := (if y1 = 0 then ((32 : Int32) + (jJ6_numberOfLeadingZeros_0f7a4 (a0.toInt32))) else (jJ6_numberOfLeadingZeros_0f7a4 y1))
def jJ13_numberOfLeadingZeros_95d88 (a0 : Int64) : Int32 := (jJ13_numberOfLeadingZeros_95d88_y1 a0 (((a0.toUInt64 >>> ((32 : Int32).toInt64.toUInt64 &&& Int64.toUInt64 63)).toInt64).toInt32))
set_option maxHeartbeats 4000000 in
set_option maxRecDepth 100000 in
theorem qJ13_numberOfLeadingZeros_95d88 (l : Launch) (a0 : Int64) : Met l yJ13_numberOfLeadingZeros_95d88 wsJ13_numberOfLeadingZeros_95d88 ({ frames := 1, cells := 0, slots := 0, locals := 21 }) (fun v _ => v = ([.long a0] : List Value).toArray) (vp_Si (fun r => r = jJ13_numberOfLeadingZeros_95d88 a0)) 0 0 (fun _ => False) := by
  refine Met.ofW (cc := cJ13_numberOfLeadingZeros_95d88) (maxL := 3) (ret := some .int) (by decide) rfl ?_
  intro p e s m args below meth c s₁ B hml hv
  subst hv
  have hx := B.exec
  have hb := B.bytes
  have hr := B.returns
  have hts := atoms_spec (ws := wsJ13_numberOfLeadingZeros_95d88) B.pre
  have hown : s.vm.findClass RJ13 = some m.cls := findClass_of_methodNamed B.named
  have hlocks := B.notSynchronized
  obtain ⟨JR, hE⟩ : ∃ q, jJ13_numberOfLeadingZeros_95d88 a0 = q := ⟨_, rfl⟩
  have hJ := hE
  rw [jJ13_numberOfLeadingZeros_95d88] at hJ
  have hl := lv_entry ([.long a0]) (n := 3) (Nat.le_of_ble_eq_true rfl)
  rw [lg_entry_eq]
  generalize (lg_sl ([.long a0]) ++ List.replicate (3 - (lg_sl ([.long a0])).length) Slot.unset).toArray = ls at hl ⊢
  have hl : lv_has ls 3 [(0, .long a0)] := hl
  refine lv_lload_n hx hb dJ13_numberOfLeadingZeros_95d88_0 rfl (lv_at hl 0 rfl) ?_
  refine lv_bipush (v := (32 : Int32)) hx hb dJ13_numberOfLeadingZeros_95d88_1 (by decide) ?_
  refine lv_lushr (v := (a0.toUInt64 >>> ((32 : Int32).toInt64.toUInt64 &&& Int64.toUInt64 63)).toInt64) hx hb dJ13_numberOfLeadingZeros_95d88_3 rfl ?_
  refine lv_l2i (v := ((a0.toUInt64 >>> ((32 : Int32).toInt64.toUInt64 &&& Int64.toUInt64 63)).toInt64).toInt32) hx hb dJ13_numberOfLeadingZeros_95d88_4 rfl ?_
  refine lv_topi (fun y1 ey1 => ?_)
  rw [← ey1] at hJ
  rw [jJ13_numberOfLeadingZeros_95d88_y1] at hJ
  refine lv_istore_n (lv' := [(2, .int y1), (0, .long a0)]) hx hb dJ13_numberOfLeadingZeros_95d88_5 rfl hl (by decide) rfl (fun ls hl => ?_)
  refine lv_iload_n hx hb dJ13_numberOfLeadingZeros_95d88_6 rfl (lv_at hl 0 rfl) ?_
  refine lv_if_ne (tgt := 21) hx hb dJ13_numberOfLeadingZeros_95d88_7 (by decide) (fun c2 => ?_) (fun c2 => ?_)
  · skip
    rw [if_neg c2] at hJ
    refine lv_iload_n hx hb dJ13_numberOfLeadingZeros_95d88_21 rfl (lv_at hl 0 rfl) ?_
    refine vp_callSi (W.runS (As := [.int y1]) (rest := []) ⟨hx, hb, hml, hown, hts⟩ (qJ6_numberOfLeadingZeros_0f7a4 l y1) (va_cwS 1 hts gJ13_numberOfLeadingZeros_95d88_J6_numberOfLeadingZeros_0f7a4 rfl rfl rfl (by decide +kernel) ⟨Nat.le_of_ble_eq_true rfl, Nat.le_of_ble_eq_true rfl⟩) ⟨fun _ _ _ _ q => q, fun U hU hW => rfl⟩ rfl rfl hl.1 rfl (lv_room (Nat.le_of_ble_eq_true rfl)) dJ13_numberOfLeadingZeros_95d88_22 ⟨Nat.le_of_ble_eq_true rfl, Nat.le_of_ble_eq_true rfl⟩) (fun r hr => ?_)
    subst hr
    exact W.iret hx hb hr (fun t ht hW => ⟨_, rfl, hJ.trans hE.symm, ht⟩) (fun q h => absurd h List.not_mem_nil) dJ13_numberOfLeadingZeros_95d88_25
  · skip
    rw [if_pos c2] at hJ
    refine lv_bipush (v := (32 : Int32)) hx hb dJ13_numberOfLeadingZeros_95d88_10 (by decide) ?_
    refine lv_lload_n hx hb dJ13_numberOfLeadingZeros_95d88_12 rfl (lv_at hl 1 rfl) ?_
    refine lv_l2i (v := a0.toInt32) hx hb dJ13_numberOfLeadingZeros_95d88_13 rfl ?_
    refine vp_callSi (W.runS (As := [.int (a0.toInt32)]) (rest := [.int (32 : Int32)]) ⟨hx, hb, hml, hown, hts⟩ (qJ6_numberOfLeadingZeros_0f7a4 l (a0.toInt32)) (va_cwS 1 hts gJ13_numberOfLeadingZeros_95d88_J6_numberOfLeadingZeros_0f7a4 rfl rfl rfl (by decide +kernel) ⟨Nat.le_of_ble_eq_true rfl, Nat.le_of_ble_eq_true rfl⟩) ⟨fun _ _ _ _ q => q, fun U hU hW => rfl⟩ rfl rfl hl.1 rfl (lv_room (Nat.le_of_ble_eq_true rfl)) dJ13_numberOfLeadingZeros_95d88_14 ⟨Nat.le_of_ble_eq_true rfl, Nat.le_of_ble_eq_true rfl⟩) (fun r hr => ?_)
    subst hr
    refine lv_iadd hx hb dJ13_numberOfLeadingZeros_95d88_17 ?_
    refine lv_goto (tgt := 25) hx hb dJ13_numberOfLeadingZeros_95d88_18 (by decide) ?_
    exact W.iret hx hb hr (fun t ht hW => ⟨_, rfl, hJ.trans hE.symm, ht⟩) (fun q h => absurd h List.not_mem_nil) dJ13_numberOfLeadingZeros_95d88_25
def jX4_lengthOf (a0 : Int64) : Int32 := ((64 : Int32) - (jJ13_numberOfLeadingZeros_95d88 a0))
set_option maxHeartbeats 4000000 in
set_option maxRecDepth 100000 in
theorem qX4_lengthOf (l : Launch) (a0 : Int64) : Met l yX4_lengthOf wsX4_lengthOf ({ frames := 2, cells := 0, slots := 0, locals := 43 }) (fun v _ => v = ([.long a0] : List Value).toArray) (vp_Si (fun r => r = jX4_lengthOf a0)) 0 0 (fun _ => False) := by
  refine Met.ofW (cc := cX4_lengthOf) (maxL := 2) (ret := some .int) (by decide) rfl ?_
  intro p e s m args below meth c s₁ B hml hv
  subst hv
  have hx := B.exec
  have hb := B.bytes
  have hr := B.returns
  have hts := atoms_spec (ws := wsX4_lengthOf) B.pre
  have hown : s.vm.findClass RX4 = some m.cls := findClass_of_methodNamed B.named
  have hlocks := B.notSynchronized
  obtain ⟨JR, hE⟩ : ∃ q, jX4_lengthOf a0 = q := ⟨_, rfl⟩
  have hJ := hE
  rw [jX4_lengthOf] at hJ
  have hl := lv_entry ([.long a0]) (n := 2) (Nat.le_of_ble_eq_true rfl)
  rw [lg_entry_eq]
  generalize (lg_sl ([.long a0]) ++ List.replicate (2 - (lg_sl ([.long a0])).length) Slot.unset).toArray = ls at hl ⊢
  have hl : lv_has ls 2 [(0, .long a0)] := hl
  refine lv_bipush (v := (64 : Int32)) hx hb dX4_lengthOf_0 (by decide) ?_
  refine lv_lload_n hx hb dX4_lengthOf_2 rfl (lv_at hl 0 rfl) ?_
  refine vp_callSi (W.runS (As := [.long a0]) (rest := [.int (64 : Int32)]) ⟨hx, hb, hml, hown, hts⟩ (qJ13_numberOfLeadingZeros_95d88 l a0) (va_cwS 1 hts gX4_lengthOf_J13_numberOfLeadingZeros_95d88 rfl rfl rfl (by decide +kernel) ⟨Nat.le_of_ble_eq_true rfl, Nat.le_of_ble_eq_true rfl⟩) ⟨fun _ _ _ _ q => q, fun U hU hW => rfl⟩ rfl rfl hl.1 rfl (lv_room (Nat.le_of_ble_eq_true rfl)) dX4_lengthOf_3 ⟨Nat.le_of_ble_eq_true rfl, Nat.le_of_ble_eq_true rfl⟩) (fun r hr => ?_)
  subst hr
  refine lv_isub hx hb dX4_lengthOf_6 ?_
  exact W.iret hx hb hr (fun t ht hW => ⟨_, rfl, hJ.trans hE.symm, ht⟩) (fun q h => absurd h List.not_mem_nil) dX4_lengthOf_7
def jX4_endless (a0 : Int32) : Int64 := (if a0 = 0 then (2139095040 : Int64) else (9218868437227405312 : Int64))
set_option maxHeartbeats 4000000 in
set_option maxRecDepth 100000 in
theorem qX4_endless (l : Launch) (a0 : Int32) : Met l yX4_endless wsX4_endless ({ frames := 0, cells := 0, slots := 0, locals := 0 }) (fun v _ => v = ([.int a0] : List Value).toArray) (vp_Sl (fun r => r = jX4_endless a0)) 0 0 (fun _ => False) := by
  refine Met.ofW (cc := cX4_endless) (maxL := 1) (ret := some .long) (by decide) rfl ?_
  intro p e s m args below meth c s₁ B hml hv
  subst hv
  have hx := B.exec
  have hb := B.bytes
  have hr := B.returns
  have hts := atoms_spec (ws := wsX4_endless) B.pre
  have hown : s.vm.findClass RX4 = some m.cls := findClass_of_methodNamed B.named
  have hlocks := B.notSynchronized
  obtain ⟨JR, hE⟩ : ∃ q, jX4_endless a0 = q := ⟨_, rfl⟩
  have hJ := hE
  rw [jX4_endless] at hJ
  have hl := lv_entry ([.int a0]) (n := 1) (Nat.le_of_ble_eq_true rfl)
  rw [lg_entry_eq]
  generalize (lg_sl ([.int a0]) ++ List.replicate (1 - (lg_sl ([.int a0])).length) Slot.unset).toArray = ls at hl ⊢
  have hl : lv_has ls 1 [(0, .int a0)] := hl
  refine lv_iload_n hx hb dX4_endless_0 rfl (lv_at hl 0 rfl) ?_
  refine lv_if_eq (tgt := 10) hx hb dX4_endless_1 (by decide) (fun c1 => ?_) (fun c1 => ?_)
  · skip
    rw [if_pos c1] at hJ
    refine lv_ldc2 (v := (2139095040 : Int64)) hx hb hown (hts (.constantLong RX4 88 (2139095040)) (by decide +kernel)) dX4_endless_10 ?_
    exact W.lret hx hb hr (fun t ht hW => ⟨_, rfl, hJ.trans hE.symm, ht⟩) (fun q h => absurd h List.not_mem_nil) dX4_endless_13
  · skip
    rw [if_neg c1] at hJ
    refine lv_ldc2 (v := (9218868437227405312 : Int64)) hx hb hown (hts (.constantLong RX4 86 (9218868437227405312)) (by decide +kernel)) dX4_endless_4 ?_
    refine lv_goto (tgt := 13) hx hb dX4_endless_7 (by decide) ?_
    exact W.lret hx hb hr (fun t ht hW => ⟨_, rfl, hJ.trans hE.symm, ht⟩) (fun q h => absurd h List.not_mem_nil) dX4_endless_13
def jX4_rounded_y6 (a0 : Int64) (a2 : Int32) (y3 : Int64) (y4 : Int64) (y5 : Int64) (y6 : Int32) : Int64 := (if y6 = 0 then y3 else (y3 + (1 : Int64)))
def jX4_rounded_y5 (a0 : Int64) (a2 : Int32) (y3 : Int64) (y4 : Int64) (y5 : Int64) : Int64 := (jX4_rounded_y6 a0 a2 y3 y4 y5 (if y5 < y4 then (1 : Int32) else (if y4 = y5 then (if (y3 &&& (1 : Int64)) = (0 : Int64) then (0 : Int32) else (1 : Int32)) else (0 : Int32))))
def jX4_rounded_y4 (a0 : Int64) (a2 : Int32) (y3 : Int64) (y4 : Int64) : Int64 := (jX4_rounded_y5 a0 a2 y3 y4 ((1 : Int64) <<< ((a2 - (1 : Int32)).toInt64 &&& 63)))
def jX4_rounded_y3 (a0 : Int64) (a2 : Int32) (y3 : Int64) : Int64 := (jX4_rounded_y4 a0 a2 y3 (a0 &&& (((1 : Int64) <<< (a2.toInt64 &&& 63)) - (1 : Int64))))
def jX4_rounded (a0 : Int64) (a2 : Int32) : Int64 := (if 0 < a2 then (if a2 ≤ (63 : Int32) then (jX4_rounded_y3 a0 a2 ((a0.toUInt64 >>> (a2.toInt64.toUInt64 &&& Int64.toUInt64 63)).toInt64)) else (0 : Int64)) else (a0 <<< ((-a2).toInt64 &&& 63)))
set_option maxHeartbeats 4000000 in
set_option maxRecDepth 100000 in
theorem qX4_rounded (l : Launch) (a0 : Int64) (a2 : Int32) : Met l yX4_rounded wsX4_rounded ({ frames := 0, cells := 0, slots := 0, locals := 0 }) (fun v _ => v = ([.long a0, .int a2] : List Value).toArray) (vp_Sl (fun r => r = jX4_rounded a0 a2)) 0 0 (fun _ => False) := by
  refine Met.ofW (cc := cX4_rounded) (maxL := 10) (ret := some .long) (by decide) rfl ?_
  intro p e s m args below meth c s₁ B hml hv
  subst hv
  have hx := B.exec
  have hb := B.bytes
  have hr := B.returns
  have hts := atoms_spec (ws := wsX4_rounded) B.pre
  have hown : s.vm.findClass RX4 = some m.cls := findClass_of_methodNamed B.named
  have hlocks := B.notSynchronized
  obtain ⟨JR, hE⟩ : ∃ q, jX4_rounded a0 a2 = q := ⟨_, rfl⟩
  have hJ := hE
  rw [jX4_rounded] at hJ
  have hl := lv_entry ([.long a0, .int a2]) (n := 10) (Nat.le_of_ble_eq_true rfl)
  rw [lg_entry_eq]
  generalize (lg_sl ([.long a0, .int a2]) ++ List.replicate (10 - (lg_sl ([.long a0, .int a2])).length) Slot.unset).toArray = ls at hl ⊢
  have hl : lv_has ls 10 [(0, .long a0), (2, .int a2)] := hl
  refine lv_iload_n hx hb dX4_rounded_0 rfl (lv_at hl 1 rfl) ?_
  refine lv_if_gt (tgt := 9) hx hb dX4_rounded_1 (by decide) (fun c1 => ?_) (fun c1 => ?_)
  · skip
    rw [if_pos c1] at hJ
    refine lv_iload_n hx hb dX4_rounded_9 rfl (lv_at hl 1 rfl) ?_
    refine lv_bipush (v := (63 : Int32)) hx hb dX4_rounded_10 (by decide) ?_
    refine lv_icmp_le (tgt := 17) hx hb dX4_rounded_12 (by decide) (fun c2 => ?_) (fun c2 => ?_)
    · skip
      rw [if_pos c2] at hJ
      refine lv_lload_n hx hb dX4_rounded_17 rfl (lv_at hl 0 rfl) ?_
      refine lv_iload_n hx hb dX4_rounded_18 rfl (lv_at hl 1 rfl) ?_
      refine lv_lushr (v := (a0.toUInt64 >>> (a2.toInt64.toUInt64 &&& Int64.toUInt64 63)).toInt64) hx hb dX4_rounded_19 rfl ?_
      refine lv_topl (fun y3 ey3 => ?_)
      rw [← ey3] at hJ
      rw [jX4_rounded_y3] at hJ
      refine lv_lstore_n (lv' := [(3, .long y3), (0, .long a0), (2, .int a2)]) hx hb dX4_rounded_20 rfl hl (by decide) rfl (fun ls hl => ?_)
      refine lv_lload_n hx hb dX4_rounded_21 rfl (lv_at hl 1 rfl) ?_
      refine lv_lconst (v := (1 : Int64)) hx hb dX4_rounded_22 (by decide) ?_
      refine lv_iload_n hx hb dX4_rounded_23 rfl (lv_at hl 2 rfl) ?_
      refine lv_lshl (v := ((1 : Int64) <<< (a2.toInt64 &&& 63))) hx hb dX4_rounded_24 rfl ?_
      refine lv_lconst (v := (1 : Int64)) hx hb dX4_rounded_25 (by decide) ?_
      refine lv_lsub hx hb dX4_rounded_26 ?_
      refine lv_land hx hb dX4_rounded_27 ?_
      refine lv_topl (fun y4 ey4 => ?_)
      rw [← ey4] at hJ
      rw [jX4_rounded_y4] at hJ
      refine lv_lstore (lv' := [(5, .long y4), (3, .long y3), (0, .long a0), (2, .int a2)]) hx hb dX4_rounded_28 hl (by decide) rfl (fun ls hl => ?_)
      refine lv_lconst (v := (1 : Int64)) hx hb dX4_rounded_30 (by decide) ?_
      refine lv_iload_n hx hb dX4_rounded_31 rfl (lv_at hl 3 rfl) ?_
      refine lv_iconst (v := (1 : Int32)) hx hb dX4_rounded_32 (by decide) ?_
      refine lv_isub hx hb dX4_rounded_33 ?_
      refine lv_lshl (v := ((1 : Int64) <<< ((a2 - (1 : Int32)).toInt64 &&& 63))) hx hb dX4_rounded_34 rfl ?_
      refine lv_topl (fun y5 ey5 => ?_)
      rw [← ey5] at hJ
      rw [jX4_rounded_y5] at hJ
      refine lv_lstore (lv' := [(7, .long y5), (5, .long y4), (3, .long y3), (0, .long a0), (2, .int a2)]) hx hb dX4_rounded_35 hl (by decide) rfl (fun ls hl => ?_)
      refine lv_lload hx hb dX4_rounded_37 (lv_at hl 1 rfl) ?_
      refine lv_lload hx hb dX4_rounded_39 (lv_at hl 0 rfl) ?_
      refine W.lcmp hx hb dX4_rounded_41 ?_
      refine jn_i (J := 66) (ls := ls) (v := (if y5 < y4 then (1 : Int32) else (if y4 = y5 then (if (y3 &&& (1 : Int64)) = (0 : Int64) then (0 : Int32) else (1 : Int32)) else (0 : Int32)))) (rest := []) ?_ (fun y6 ey6 => ?_)
      · intro hj
        refine lv_if_gt (tgt := 61) hx hb dX4_rounded_42 (by decide) (fun c7 => ?_) (fun c7 => ?_)
        · have c7 := (lg_cmp_gt _ _).mp c7
          rw [if_pos c7] at hj
          refine lv_iconst (v := (1 : Int32)) hx hb dX4_rounded_61 (by decide) ?_
          refine lv_goto (tgt := 66) hx hb dX4_rounded_62 (by decide) ?_
          exact hj
        · have c7 := mt (lg_cmp_gt _ _).mpr c7
          rw [if_neg c7] at hj
          refine lv_lload hx hb dX4_rounded_45 (lv_at hl 1 rfl) ?_
          refine lv_lload hx hb dX4_rounded_47 (lv_at hl 0 rfl) ?_
          refine W.lcmp hx hb dX4_rounded_49 ?_
          refine lv_if_ne (tgt := 65) hx hb dX4_rounded_50 (by decide) (fun c8 => ?_) (fun c8 => ?_)
          · have c8 := mt (lg_cmp_eq _ _).mpr c8
            rw [if_neg c8] at hj
            refine lv_iconst (v := (0 : Int32)) hx hb dX4_rounded_65 (by decide) ?_
            exact hj
          · have c8 := (lg_cmp_eq _ _).mp c8
            rw [if_pos c8] at hj
            refine lv_lload_n hx hb dX4_rounded_53 rfl (lv_at hl 2 rfl) ?_
            refine lv_lconst (v := (1 : Int64)) hx hb dX4_rounded_54 (by decide) ?_
            refine lv_land hx hb dX4_rounded_55 ?_
            refine lv_lconst (v := (0 : Int64)) hx hb dX4_rounded_56 (by decide) ?_
            refine W.lcmp hx hb dX4_rounded_57 ?_
            refine lv_if_eq (tgt := 65) hx hb dX4_rounded_58 (by decide) (fun c9 => ?_) (fun c9 => ?_)
            · have c9 := (lg_cmp_eq _ _).mp c9
              rw [if_pos c9] at hj
              refine lv_iconst (v := (0 : Int32)) hx hb dX4_rounded_65 (by decide) ?_
              exact hj
            · have c9 := mt (lg_cmp_eq _ _).mpr c9
              rw [if_neg c9] at hj
              refine lv_iconst (v := (1 : Int32)) hx hb dX4_rounded_61 (by decide) ?_
              refine lv_goto (tgt := 66) hx hb dX4_rounded_62 (by decide) ?_
              exact hj
      rw [← ey6] at hJ
      rw [jX4_rounded_y6] at hJ
      refine lv_istore (lv' := [(9, .int y6), (7, .long y5), (5, .long y4), (3, .long y3), (0, .long a0), (2, .int a2)]) hx hb dX4_rounded_66 hl (by decide) rfl (fun ls hl => ?_)
      refine lv_iload hx hb dX4_rounded_68 (lv_at hl 0 rfl) ?_
      refine lv_if_eq (tgt := 79) hx hb dX4_rounded_70 (by decide) (fun c10 => ?_) (fun c10 => ?_)
      · skip
        rw [if_pos c10] at hJ
        refine lv_lload_n hx hb dX4_rounded_79 rfl (lv_at hl 3 rfl) ?_
        exact W.lret hx hb hr (fun t ht hW => ⟨_, rfl, hJ.trans hE.symm, ht⟩) (fun q h => absurd h List.not_mem_nil) dX4_rounded_80
      · skip
        rw [if_neg c10] at hJ
        refine lv_lload_n hx hb dX4_rounded_73 rfl (lv_at hl 3 rfl) ?_
        refine lv_lconst (v := (1 : Int64)) hx hb dX4_rounded_74 (by decide) ?_
        refine lv_ladd hx hb dX4_rounded_75 ?_
        refine lv_goto (tgt := 80) hx hb dX4_rounded_76 (by decide) ?_
        exact W.lret hx hb hr (fun t ht hW => ⟨_, rfl, hJ.trans hE.symm, ht⟩) (fun q h => absurd h List.not_mem_nil) dX4_rounded_80
    · skip
      rw [if_neg c2] at hJ
      refine lv_lconst (v := (0 : Int64)) hx hb dX4_rounded_15 (by decide) ?_
      exact W.lret hx hb hr (fun t ht hW => ⟨_, rfl, hJ.trans hE.symm, ht⟩) (fun q h => absurd h List.not_mem_nil) dX4_rounded_16
  · skip
    rw [if_neg c1] at hJ
    refine lv_lload_n hx hb dX4_rounded_4 rfl (lv_at hl 0 rfl) ?_
    refine lv_iload_n hx hb dX4_rounded_5 rfl (lv_at hl 1 rfl) ?_
    refine lv_ineg hx hb dX4_rounded_6 ?_
    refine lv_lshl (v := (a0 <<< ((-a2).toInt64 &&& 63))) hx hb dX4_rounded_7 rfl ?_
    exact W.lret hx hb hr (fun t ht hW => ⟨_, rfl, hJ.trans hE.symm, ht⟩) (fun q h => absurd h List.not_mem_nil) dX4_rounded_8
def jX4_withMore (a0 : Int64) (a2 : Int64) : Int64 := (if a2 = (0 : Int64) then a0 else (a0 ||| (1 : Int64)))
set_option maxHeartbeats 4000000 in
set_option maxRecDepth 100000 in
theorem qX4_withMore (l : Launch) (a0 : Int64) (a2 : Int64) : Met l yX4_withMore wsX4_withMore ({ frames := 0, cells := 0, slots := 0, locals := 0 }) (fun v _ => v = ([.long a0, .long a2] : List Value).toArray) (vp_Sl (fun r => r = jX4_withMore a0 a2)) 0 0 (fun _ => False) := by
  refine Met.ofW (cc := cX4_withMore) (maxL := 4) (ret := some .long) (by decide) rfl ?_
  intro p e s m args below meth c s₁ B hml hv
  subst hv
  have hx := B.exec
  have hb := B.bytes
  have hr := B.returns
  have hts := atoms_spec (ws := wsX4_withMore) B.pre
  have hown : s.vm.findClass RX4 = some m.cls := findClass_of_methodNamed B.named
  have hlocks := B.notSynchronized
  obtain ⟨JR, hE⟩ : ∃ q, jX4_withMore a0 a2 = q := ⟨_, rfl⟩
  have hJ := hE
  rw [jX4_withMore] at hJ
  have hl := lv_entry ([.long a0, .long a2]) (n := 4) (Nat.le_of_ble_eq_true rfl)
  rw [lg_entry_eq]
  generalize (lg_sl ([.long a0, .long a2]) ++ List.replicate (4 - (lg_sl ([.long a0, .long a2])).length) Slot.unset).toArray = ls at hl ⊢
  have hl : lv_has ls 4 [(0, .long a0), (2, .long a2)] := hl
  refine lv_lload_n hx hb dX4_withMore_0 rfl (lv_at hl 1 rfl) ?_
  refine lv_lconst (v := (0 : Int64)) hx hb dX4_withMore_1 (by decide) ?_
  refine W.lcmp hx hb dX4_withMore_2 ?_
  refine lv_if_ne (tgt := 10) hx hb dX4_withMore_3 (by decide) (fun c1 => ?_) (fun c1 => ?_)
  · have c1 := mt (lg_cmp_eq _ _).mpr c1
    rw [if_neg c1] at hJ
    refine lv_lload_n hx hb dX4_withMore_10 rfl (lv_at hl 0 rfl) ?_
    refine lv_lconst (v := (1 : Int64)) hx hb dX4_withMore_11 (by decide) ?_
    refine lv_lor hx hb dX4_withMore_12 ?_
    exact W.lret hx hb hr (fun t ht hW => ⟨_, rfl, hJ.trans hE.symm, ht⟩) (fun q h => absurd h List.not_mem_nil) dX4_withMore_13
  · have c1 := (lg_cmp_eq _ _).mp c1
    rw [if_pos c1] at hJ
    refine lv_lload_n hx hb dX4_withMore_6 rfl (lv_at hl 0 rfl) ?_
    refine lv_goto (tgt := 13) hx hb dX4_withMore_7 (by decide) ?_
    exact W.lret hx hb hr (fun t ht hW => ⟨_, rfl, hJ.trans hE.symm, ht⟩) (fun q h => absurd h List.not_mem_nil) dX4_withMore_13
def jX4_shiftedOut (a0 : Int64) (a2 : Int32) : Int64 := (if a2 ≤ (63 : Int32) then (jX4_withMore ((a0.toUInt64 >>> (a2.toInt64.toUInt64 &&& Int64.toUInt64 63)).toInt64) (a0 &&& (((1 : Int64) <<< (a2.toInt64 &&& 63)) - (1 : Int64)))) else (jX4_withMore (0 : Int64) a0))
set_option maxHeartbeats 4000000 in
set_option maxRecDepth 100000 in
theorem qX4_shiftedOut (l : Launch) (a0 : Int64) (a2 : Int32) : Met l yX4_shiftedOut wsX4_shiftedOut ({ frames := 1, cells := 0, slots := 0, locals := 23 }) (fun v _ => v = ([.long a0, .int a2] : List Value).toArray) (vp_Sl (fun r => r = jX4_shiftedOut a0 a2)) 0 0 (fun _ => False) := by
  refine Met.ofW (cc := cX4_shiftedOut) (maxL := 3) (ret := some .long) (by decide) rfl ?_
  intro p e s m args below meth c s₁ B hml hv
  subst hv
  have hx := B.exec
  have hb := B.bytes
  have hr := B.returns
  have hts := atoms_spec (ws := wsX4_shiftedOut) B.pre
  have hown : s.vm.findClass RX4 = some m.cls := findClass_of_methodNamed B.named
  have hlocks := B.notSynchronized
  obtain ⟨JR, hE⟩ : ∃ q, jX4_shiftedOut a0 a2 = q := ⟨_, rfl⟩
  have hJ := hE
  rw [jX4_shiftedOut] at hJ
  have hl := lv_entry ([.long a0, .int a2]) (n := 3) (Nat.le_of_ble_eq_true rfl)
  rw [lg_entry_eq]
  generalize (lg_sl ([.long a0, .int a2]) ++ List.replicate (3 - (lg_sl ([.long a0, .int a2])).length) Slot.unset).toArray = ls at hl ⊢
  have hl : lv_has ls 3 [(0, .long a0), (2, .int a2)] := hl
  refine lv_iload_n hx hb dX4_shiftedOut_0 rfl (lv_at hl 1 rfl) ?_
  refine lv_bipush (v := (63 : Int32)) hx hb dX4_shiftedOut_1 (by decide) ?_
  refine lv_icmp_le (tgt := 12) hx hb dX4_shiftedOut_3 (by decide) (fun c1 => ?_) (fun c1 => ?_)
  · skip
    rw [if_pos c1] at hJ
    refine lv_lload_n hx hb dX4_shiftedOut_12 rfl (lv_at hl 0 rfl) ?_
    refine lv_iload_n hx hb dX4_shiftedOut_13 rfl (lv_at hl 1 rfl) ?_
    refine lv_lushr (v := (a0.toUInt64 >>> (a2.toInt64.toUInt64 &&& Int64.toUInt64 63)).toInt64) hx hb dX4_shiftedOut_14 rfl ?_
    refine lv_lload_n hx hb dX4_shiftedOut_15 rfl (lv_at hl 0 rfl) ?_
    refine lv_lconst (v := (1 : Int64)) hx hb dX4_shiftedOut_16 (by decide) ?_
    refine lv_iload_n hx hb dX4_shiftedOut_17 rfl (lv_at hl 1 rfl) ?_
    refine lv_lshl (v := ((1 : Int64) <<< (a2.toInt64 &&& 63))) hx hb dX4_shiftedOut_18 rfl ?_
    refine lv_lconst (v := (1 : Int64)) hx hb dX4_shiftedOut_19 (by decide) ?_
    refine lv_lsub hx hb dX4_shiftedOut_20 ?_
    refine lv_land hx hb dX4_shiftedOut_21 ?_
    refine vp_callSl (W.runS (As := [.long ((a0.toUInt64 >>> (a2.toInt64.toUInt64 &&& Int64.toUInt64 63)).toInt64), .long (a0 &&& (((1 : Int64) <<< (a2.toInt64 &&& 63)) - (1 : Int64)))]) (rest := []) ⟨hx, hb, hml, hown, hts⟩ (qX4_withMore l ((a0.toUInt64 >>> (a2.toInt64.toUInt64 &&& Int64.toUInt64 63)).toInt64) (a0 &&& (((1 : Int64) <<< (a2.toInt64 &&& 63)) - (1 : Int64)))) (va_cwS 2 hts gX4_shiftedOut_X4_withMore rfl rfl rfl (by decide +kernel) ⟨Nat.le_of_ble_eq_true rfl, Nat.le_of_ble_eq_true rfl⟩) ⟨fun _ _ _ _ q => q, fun U hU hW => rfl⟩ rfl rfl hl.1 rfl (lv_room (Nat.le_of_ble_eq_true rfl)) dX4_shiftedOut_22 ⟨Nat.le_of_ble_eq_true rfl, Nat.le_of_ble_eq_true rfl⟩) (fun r hr => ?_)
    subst hr
    exact W.lret hx hb hr (fun t ht hW => ⟨_, rfl, hJ.trans hE.symm, ht⟩) (fun q h => absurd h List.not_mem_nil) dX4_shiftedOut_25
  · skip
    rw [if_neg c1] at hJ
    refine lv_lconst (v := (0 : Int64)) hx hb dX4_shiftedOut_6 (by decide) ?_
    refine lv_lload_n hx hb dX4_shiftedOut_7 rfl (lv_at hl 0 rfl) ?_
    refine vp_callSl (W.runS (As := [.long (0 : Int64), .long a0]) (rest := []) ⟨hx, hb, hml, hown, hts⟩ (qX4_withMore l (0 : Int64) a0) (va_cwS 2 hts gX4_shiftedOut_X4_withMore rfl rfl rfl (by decide +kernel) ⟨Nat.le_of_ble_eq_true rfl, Nat.le_of_ble_eq_true rfl⟩) ⟨fun _ _ _ _ q => q, fun U hU hW => rfl⟩ rfl rfl hl.1 rfl (lv_room (Nat.le_of_ble_eq_true rfl)) dX4_shiftedOut_8 ⟨Nat.le_of_ble_eq_true rfl, Nat.le_of_ble_eq_true rfl⟩) (fun r hr => ?_)
    subst hr
    exact W.lret hx hb hr (fun t ht hW => ⟨_, rfl, hJ.trans hE.symm, ht⟩) (fun q h => absurd h List.not_mem_nil) dX4_shiftedOut_11
def jX4_told (a0 : Int32) (a1 : Int64) : Int64 := (if a0 = 0 then ((a1.toInt32).toInt64) else a1)
set_option maxHeartbeats 4000000 in
set_option maxRecDepth 100000 in
theorem qX4_told (l : Launch) (a0 : Int32) (a1 : Int64) : Met l yX4_told wsX4_told ({ frames := 0, cells := 0, slots := 0, locals := 0 }) (fun v _ => v = ([.int a0, .long a1] : List Value).toArray) (vp_Sl (fun r => r = jX4_told a0 a1)) 0 0 (fun _ => False) := by
  refine Met.ofW (cc := cX4_told) (maxL := 3) (ret := some .long) (by decide) rfl ?_
  intro p e s m args below meth c s₁ B hml hv
  subst hv
  have hx := B.exec
  have hb := B.bytes
  have hr := B.returns
  have hts := atoms_spec (ws := wsX4_told) B.pre
  have hown : s.vm.findClass RX4 = some m.cls := findClass_of_methodNamed B.named
  have hlocks := B.notSynchronized
  obtain ⟨JR, hE⟩ : ∃ q, jX4_told a0 a1 = q := ⟨_, rfl⟩
  have hJ := hE
  rw [jX4_told] at hJ
  have hl := lv_entry ([.int a0, .long a1]) (n := 3) (Nat.le_of_ble_eq_true rfl)
  rw [lg_entry_eq]
  generalize (lg_sl ([.int a0, .long a1]) ++ List.replicate (3 - (lg_sl ([.int a0, .long a1])).length) Slot.unset).toArray = ls at hl ⊢
  have hl : lv_has ls 3 [(0, .int a0), (1, .long a1)] := hl
  refine lv_iload_n hx hb dX4_told_0 rfl (lv_at hl 0 rfl) ?_
  refine lv_if_eq (tgt := 8) hx hb dX4_told_1 (by decide) (fun c1 => ?_) (fun c1 => ?_)
  · skip
    rw [if_pos c1] at hJ
    refine lv_lload_n hx hb dX4_told_8 rfl (lv_at hl 1 rfl) ?_
    refine lv_l2i (v := a1.toInt32) hx hb dX4_told_9 rfl ?_
    refine lv_i2l (v := (a1.toInt32).toInt64) hx hb dX4_told_10 rfl ?_
    exact W.lret hx hb hr (fun t ht hW => ⟨_, rfl, hJ.trans hE.symm, ht⟩) (fun q h => absurd h List.not_mem_nil) dX4_told_11
  · skip
    rw [if_neg c1] at hJ
    refine lv_lload_n hx hb dX4_told_4 rfl (lv_at hl 1 rfl) ?_
    refine lv_goto (tgt := 11) hx hb dX4_told_5 (by decide) ?_
    exact W.lret hx hb hr (fun t ht hW => ⟨_, rfl, hJ.trans hE.symm, ht⟩) (fun q h => absurd h List.not_mem_nil) dX4_told_11
def jX4_isNumber (a0 : Int32) (a1 : Int64) : Int32 := (if (jX4_endless a0) < (jX4_sizeOf a0 a1) then (0 : Int32) else (1 : Int32))
set_option maxHeartbeats 4000000 in
set_option maxRecDepth 100000 in
theorem qX4_isNumber (l : Launch) (a0 : Int32) (a1 : Int64) : Met l yX4_isNumber wsX4_isNumber ({ frames := 1, cells := 0, slots := 0, locals := 22 }) (fun v _ => v = ([.int a0, .long a1] : List Value).toArray) (vp_Si (fun r => r = jX4_isNumber a0 a1)) 0 0 (fun _ => False) := by
  refine Met.ofW (cc := cX4_isNumber) (maxL := 3) (ret := some .boolean) (by decide) rfl ?_
  intro p e s m args below meth c s₁ B hml hv
  subst hv
  have hx := B.exec
  have hb := B.bytes
  have hr := B.returns
  have hts := atoms_spec (ws := wsX4_isNumber) B.pre
  have hown : s.vm.findClass RX4 = some m.cls := findClass_of_methodNamed B.named
  have hlocks := B.notSynchronized
  obtain ⟨JR, hE⟩ : ∃ q, jX4_isNumber a0 a1 = q := ⟨_, rfl⟩
  have hJ := hE
  rw [jX4_isNumber] at hJ
  have hl := lv_entry ([.int a0, .long a1]) (n := 3) (Nat.le_of_ble_eq_true rfl)
  rw [lg_entry_eq]
  generalize (lg_sl ([.int a0, .long a1]) ++ List.replicate (3 - (lg_sl ([.int a0, .long a1])).length) Slot.unset).toArray = ls at hl ⊢
  have hl : lv_has ls 3 [(0, .int a0), (1, .long a1)] := hl
  refine lv_iload_n hx hb dX4_isNumber_0 rfl (lv_at hl 0 rfl) ?_
  refine lv_lload_n hx hb dX4_isNumber_1 rfl (lv_at hl 1 rfl) ?_
  refine vp_callSl (W.runS (As := [.int a0, .long a1]) (rest := []) ⟨hx, hb, hml, hown, hts⟩ (qX4_sizeOf l a0 a1) (va_cwS 2 hts gX4_isNumber_X4_sizeOf rfl rfl rfl (by decide +kernel) ⟨Nat.le_of_ble_eq_true rfl, Nat.le_of_ble_eq_true rfl⟩) ⟨fun _ _ _ _ q => q, fun U hU hW => rfl⟩ rfl rfl hl.1 rfl (lv_room (Nat.le_of_ble_eq_true rfl)) dX4_isNumber_2 ⟨Nat.le_of_ble_eq_true rfl, Nat.le_of_ble_eq_true rfl⟩) (fun r hr => ?_)
  subst hr
  refine lv_iload_n hx hb dX4_isNumber_5 rfl (lv_at hl 0 rfl) ?_
  refine vp_callSl (W.runS (As := [.int a0]) (rest := [.long (jX4_sizeOf a0 a1)]) ⟨hx, hb, hml, hown, hts⟩ (qX4_endless l a0) (va_cwS 1 hts gX4_isNumber_X4_endless rfl rfl rfl (by decide +kernel) ⟨Nat.le_of_ble_eq_true rfl, Nat.le_of_ble_eq_true rfl⟩) ⟨fun _ _ _ _ q => q, fun U hU hW => rfl⟩ rfl rfl hl.1 rfl (lv_room (Nat.le_of_ble_eq_true rfl)) dX4_isNumber_6 ⟨Nat.le_of_ble_eq_true rfl, Nat.le_of_ble_eq_true rfl⟩) (fun r hr => ?_)
  subst hr
  refine W.lcmp hx hb dX4_isNumber_9 ?_
  refine lv_if_gt (tgt := 17) hx hb dX4_isNumber_10 (by decide) (fun c1 => ?_) (fun c1 => ?_)
  · have c1 := (lg_cmp_gt _ _).mp c1
    rw [if_pos c1] at hJ
    refine lv_iconst (v := (0 : Int32)) hx hb dX4_isNumber_17 (by decide) ?_
    exact W.zret hx hb hr rfl (fun t ht hW => ⟨_, rfl, hJ.trans hE.symm, ht⟩) (fun q h => absurd h List.not_mem_nil) dX4_isNumber_18
  · have c1 := mt (lg_cmp_gt _ _).mpr c1
    rw [if_neg c1] at hJ
    refine lv_iconst (v := (1 : Int32)) hx hb dX4_isNumber_13 (by decide) ?_
    refine lv_goto (tgt := 18) hx hb dX4_isNumber_14 (by decide) ?_
    exact W.zret hx hb hr rfl (fun t ht hW => ⟨_, rfl, hJ.trans hE.symm, ht⟩) (fun q h => absurd h List.not_mem_nil) dX4_isNumber_18
def jX4_isFit (a0 : Int32) (a1 : Int64) : Int32 := (if (jX4_endless a0) ≤ (jX4_sizeOf a0 a1) then (0 : Int32) else (1 : Int32))
set_option maxHeartbeats 4000000 in
set_option maxRecDepth 100000 in
theorem qX4_isFit (l : Launch) (a0 : Int32) (a1 : Int64) : Met l yX4_isFit wsX4_isFit ({ frames := 1, cells := 0, slots := 0, locals := 22 }) (fun v _ => v = ([.int a0, .long a1] : List Value).toArray) (vp_Si (fun r => r = jX4_isFit a0 a1)) 0 0 (fun _ => False) := by
  refine Met.ofW (cc := cX4_isFit) (maxL := 3) (ret := some .boolean) (by decide) rfl ?_
  intro p e s m args below meth c s₁ B hml hv
  subst hv
  have hx := B.exec
  have hb := B.bytes
  have hr := B.returns
  have hts := atoms_spec (ws := wsX4_isFit) B.pre
  have hown : s.vm.findClass RX4 = some m.cls := findClass_of_methodNamed B.named
  have hlocks := B.notSynchronized
  obtain ⟨JR, hE⟩ : ∃ q, jX4_isFit a0 a1 = q := ⟨_, rfl⟩
  have hJ := hE
  rw [jX4_isFit] at hJ
  have hl := lv_entry ([.int a0, .long a1]) (n := 3) (Nat.le_of_ble_eq_true rfl)
  rw [lg_entry_eq]
  generalize (lg_sl ([.int a0, .long a1]) ++ List.replicate (3 - (lg_sl ([.int a0, .long a1])).length) Slot.unset).toArray = ls at hl ⊢
  have hl : lv_has ls 3 [(0, .int a0), (1, .long a1)] := hl
  refine lv_iload_n hx hb dX4_isFit_0 rfl (lv_at hl 0 rfl) ?_
  refine lv_lload_n hx hb dX4_isFit_1 rfl (lv_at hl 1 rfl) ?_
  refine vp_callSl (W.runS (As := [.int a0, .long a1]) (rest := []) ⟨hx, hb, hml, hown, hts⟩ (qX4_sizeOf l a0 a1) (va_cwS 2 hts gX4_isFit_X4_sizeOf rfl rfl rfl (by decide +kernel) ⟨Nat.le_of_ble_eq_true rfl, Nat.le_of_ble_eq_true rfl⟩) ⟨fun _ _ _ _ q => q, fun U hU hW => rfl⟩ rfl rfl hl.1 rfl (lv_room (Nat.le_of_ble_eq_true rfl)) dX4_isFit_2 ⟨Nat.le_of_ble_eq_true rfl, Nat.le_of_ble_eq_true rfl⟩) (fun r hr => ?_)
  subst hr
  refine lv_iload_n hx hb dX4_isFit_5 rfl (lv_at hl 0 rfl) ?_
  refine vp_callSl (W.runS (As := [.int a0]) (rest := [.long (jX4_sizeOf a0 a1)]) ⟨hx, hb, hml, hown, hts⟩ (qX4_endless l a0) (va_cwS 1 hts gX4_isFit_X4_endless rfl rfl rfl (by decide +kernel) ⟨Nat.le_of_ble_eq_true rfl, Nat.le_of_ble_eq_true rfl⟩) ⟨fun _ _ _ _ q => q, fun U hU hW => rfl⟩ rfl rfl hl.1 rfl (lv_room (Nat.le_of_ble_eq_true rfl)) dX4_isFit_6 ⟨Nat.le_of_ble_eq_true rfl, Nat.le_of_ble_eq_true rfl⟩) (fun r hr => ?_)
  subst hr
  refine W.lcmp hx hb dX4_isFit_9 ?_
  refine lv_if_ge (tgt := 17) hx hb dX4_isFit_10 (by decide) (fun c1 => ?_) (fun c1 => ?_)
  · have c1 := (lg_cmp_ge _ _).mp c1
    rw [if_pos c1] at hJ
    refine lv_iconst (v := (0 : Int32)) hx hb dX4_isFit_17 (by decide) ?_
    exact W.zret hx hb hr rfl (fun t ht hW => ⟨_, rfl, hJ.trans hE.symm, ht⟩) (fun q h => absurd h List.not_mem_nil) dX4_isFit_18
  · have c1 := mt (lg_cmp_ge _ _).mpr c1
    rw [if_neg c1] at hJ
    refine lv_iconst (v := (1 : Int32)) hx hb dX4_isFit_13 (by decide) ?_
    refine lv_goto (tgt := 18) hx hb dX4_isFit_14 (by decide) ?_
    exact W.zret hx hb hr rfl (fun t ht hW => ⟨_, rfl, hJ.trans hE.symm, ht⟩) (fun q h => absurd h List.not_mem_nil) dX4_isFit_18
def jX4_isZero (a0 : Int32) (a1 : Int64) : Int32 := (if (jX4_sizeOf a0 a1) = (0 : Int64) then (1 : Int32) else (0 : Int32))
set_option maxHeartbeats 4000000 in
set_option maxRecDepth 100000 in
theorem qX4_isZero (l : Launch) (a0 : Int32) (a1 : Int64) : Met l yX4_isZero wsX4_isZero ({ frames := 1, cells := 0, slots := 0, locals := 22 }) (fun v _ => v = ([.int a0, .long a1] : List Value).toArray) (vp_Si (fun r => r = jX4_isZero a0 a1)) 0 0 (fun _ => False) := by
  refine Met.ofW (cc := cX4_isZero) (maxL := 3) (ret := some .boolean) (by decide) rfl ?_
  intro p e s m args below meth c s₁ B hml hv
  subst hv
  have hx := B.exec
  have hb := B.bytes
  have hr := B.returns
  have hts := atoms_spec (ws := wsX4_isZero) B.pre
  have hown : s.vm.findClass RX4 = some m.cls := findClass_of_methodNamed B.named
  have hlocks := B.notSynchronized
  obtain ⟨JR, hE⟩ : ∃ q, jX4_isZero a0 a1 = q := ⟨_, rfl⟩
  have hJ := hE
  rw [jX4_isZero] at hJ
  have hl := lv_entry ([.int a0, .long a1]) (n := 3) (Nat.le_of_ble_eq_true rfl)
  rw [lg_entry_eq]
  generalize (lg_sl ([.int a0, .long a1]) ++ List.replicate (3 - (lg_sl ([.int a0, .long a1])).length) Slot.unset).toArray = ls at hl ⊢
  have hl : lv_has ls 3 [(0, .int a0), (1, .long a1)] := hl
  refine lv_iload_n hx hb dX4_isZero_0 rfl (lv_at hl 0 rfl) ?_
  refine lv_lload_n hx hb dX4_isZero_1 rfl (lv_at hl 1 rfl) ?_
  refine vp_callSl (W.runS (As := [.int a0, .long a1]) (rest := []) ⟨hx, hb, hml, hown, hts⟩ (qX4_sizeOf l a0 a1) (va_cwS 2 hts gX4_isZero_X4_sizeOf rfl rfl rfl (by decide +kernel) ⟨Nat.le_of_ble_eq_true rfl, Nat.le_of_ble_eq_true rfl⟩) ⟨fun _ _ _ _ q => q, fun U hU hW => rfl⟩ rfl rfl hl.1 rfl (lv_room (Nat.le_of_ble_eq_true rfl)) dX4_isZero_2 ⟨Nat.le_of_ble_eq_true rfl, Nat.le_of_ble_eq_true rfl⟩) (fun r hr => ?_)
  subst hr
  refine lv_lconst (v := (0 : Int64)) hx hb dX4_isZero_5 (by decide) ?_
  refine W.lcmp hx hb dX4_isZero_6 ?_
  refine lv_if_ne (tgt := 14) hx hb dX4_isZero_7 (by decide) (fun c1 => ?_) (fun c1 => ?_)
  · have c1 := mt (lg_cmp_eq _ _).mpr c1
    rw [if_neg c1] at hJ
    refine lv_iconst (v := (0 : Int32)) hx hb dX4_isZero_14 (by decide) ?_
    exact W.zret hx hb hr rfl (fun t ht hW => ⟨_, rfl, hJ.trans hE.symm, ht⟩) (fun q h => absurd h List.not_mem_nil) dX4_isZero_15
  · have c1 := (lg_cmp_eq _ _).mp c1
    rw [if_pos c1] at hJ
    refine lv_iconst (v := (1 : Int32)) hx hb dX4_isZero_10 (by decide) ?_
    refine lv_goto (tgt := 15) hx hb dX4_isZero_11 (by decide) ?_
    exact W.zret hx hb hr rfl (fun t ht hW => ⟨_, rfl, hJ.trans hE.symm, ht⟩) (fun q h => absurd h List.not_mem_nil) dX4_isZero_15
def jX4_negated (a0 : Int64) : Int64 := (a0 ^^^ (-9223372036854775808 : Int64))
set_option maxHeartbeats 4000000 in
set_option maxRecDepth 100000 in
theorem qX4_negated (l : Launch) (a0 : Int64) : Met l yX4_negated wsX4_negated ({ frames := 0, cells := 0, slots := 0, locals := 0 }) (fun v _ => v = ([.long a0] : List Value).toArray) (vp_Sl (fun r => r = jX4_negated a0)) 0 0 (fun _ => False) := by
  refine Met.ofW (cc := cX4_negated) (maxL := 2) (ret := some .long) (by decide) rfl ?_
  intro p e s m args below meth c s₁ B hml hv
  subst hv
  have hx := B.exec
  have hb := B.bytes
  have hr := B.returns
  have hts := atoms_spec (ws := wsX4_negated) B.pre
  have hown : s.vm.findClass RX4 = some m.cls := findClass_of_methodNamed B.named
  have hlocks := B.notSynchronized
  obtain ⟨JR, hE⟩ : ∃ q, jX4_negated a0 = q := ⟨_, rfl⟩
  have hJ := hE
  rw [jX4_negated] at hJ
  have hl := lv_entry ([.long a0]) (n := 2) (Nat.le_of_ble_eq_true rfl)
  rw [lg_entry_eq]
  generalize (lg_sl ([.long a0]) ++ List.replicate (2 - (lg_sl ([.long a0])).length) Slot.unset).toArray = ls at hl ⊢
  have hl : lv_has ls 2 [(0, .long a0)] := hl
  refine lv_lload_n hx hb dX4_negated_0 rfl (lv_at hl 0 rfl) ?_
  refine lv_ldc2 (v := (-9223372036854775808 : Int64)) hx hb hown (hts (.constantLong RX4 19 (-9223372036854775808)) (by decide +kernel)) dX4_negated_1 ?_
  refine lv_lxor hx hb dX4_negated_4 ?_
  exact W.lret hx hb hr (fun t ht hW => ⟨_, rfl, hJ.trans hE.symm, ht⟩) (fun q h => absurd h List.not_mem_nil) dX4_negated_5
end
section
def jX4_nearest_y7 (a0 : Int32) (a1 : Int32) (a2 : Int64) (a4 : Int32) (y2 : Int32) (y3 : Int32) (y4 : Int64) (y5 : Int64) (y7 : Int64) : Int64 := (jX4_signed a0 a1 y7)
def jX4_nearest_y5 (a0 : Int32) (a1 : Int32) (a2 : Int64) (a4 : Int32) (y2 : Int32) (y3 : Int32) (y4 : Int64) (y5 : Int64) : Int64 := (if (y5 + (1 : Int64)) < ((y4.toUInt64 >>> ((jX4_width a0).toInt64.toUInt64 &&& Int64.toUInt64 63)).toInt64) then (jX4_nearest_y7 a0 a1 a2 a4 y2 y3 y4 y5 ((y5 <<< ((jX4_width a0).toInt64 &&& 63)) + (jX4_rounded a2 (y3 - a4)))) else (jX4_signed a0 a1 y4))
def jX4_nearest_y4 (a0 : Int32) (a1 : Int32) (a2 : Int64) (a4 : Int32) (y2 : Int32) (y3 : Int32) (y4 : Int64) : Int64 := (jX4_nearest_y5 a0 a1 a2 a4 y2 y3 y4 ((y3 - y2).toInt64))
def jX4_nearest_y3 (a0 : Int32) (a1 : Int32) (a2 : Int64) (a4 : Int32) (y2 : Int32) (y3 : Int32) : Int64 := (jX4_nearest_y4 a0 a1 a2 a4 y2 y3 (jX4_endless a0))
def jX4_nearest_y2 (a0 : Int32) (a1 : Int32) (a2 : Int64) (a4 : Int32) (y2 : Int32) : Int64 := (jX4_nearest_y3 a0 a1 a2 a4 y2 (if (((a4 + (jX4_lengthOf a2)) - (1 : Int32)) - (jX4_width a0)) < y2 then y2 else (((a4 + (jX4_lengthOf a2)) - (1 : Int32)) - (jX4_width a0))))
def jX4_nearest (a0 : Int32) (a1 : Int32) (a2 : Int64) (a4 : Int32) : Int64 := (if a2 = (0 : Int64) then (jX4_signed a0 a1 (0 : Int64)) else (jX4_nearest_y2 a0 a1 a2 a4 (jX4_leastExponent a0)))
set_option maxHeartbeats 4000000 in
set_option maxRecDepth 100000 in
theorem qX4_nearest (l : Launch) (a0 : Int32) (a1 : Int32) (a2 : Int64) (a4 : Int32) : Met l yX4_nearest wsX4_nearest ({ frames := 3, cells := 0, slots := 0, locals := 64 }) (fun v _ => v = ([.int a0, .int a1, .long a2, .int a4] : List Value).toArray) (vp_Sl (fun r => r = jX4_nearest a0 a1 a2 a4)) 0 0 (fun _ => False) := by
  refine Met.ofW (cc := cX4_nearest) (maxL := 13) (ret := some .long) (by decide) rfl ?_
  intro p e s m args below meth c s₁ B hml hv
  subst hv
  have hx := B.exec
  have hb := B.bytes
  have hr := B.returns
  have hts := atoms_spec (ws := wsX4_nearest) B.pre
  have hown : s.vm.findClass RX4 = some m.cls := findClass_of_methodNamed B.named
  have hlocks := B.notSynchronized
  obtain ⟨JR, hE⟩ : ∃ q, jX4_nearest a0 a1 a2 a4 = q := ⟨_, rfl⟩
  have hJ := hE
  rw [jX4_nearest] at hJ
  have hl := lv_entry ([.int a0, .int a1, .long a2, .int a4]) (n := 13) (Nat.le_of_ble_eq_true rfl)
  rw [lg_entry_eq]
  generalize (lg_sl ([.int a0, .int a1, .long a2, .int a4]) ++ List.replicate (13 - (lg_sl ([.int a0, .int a1, .long a2, .int a4])).length) Slot.unset).toArray = ls at hl ⊢
  have hl : lv_has ls 13 [(0, .int a0), (1, .int a1), (2, .long a2), (4, .int a4)] := hl
  refine lv_lload_n hx hb dX4_nearest_0 rfl (lv_at hl 2 rfl) ?_
  refine lv_lconst (v := (0 : Int64)) hx hb dX4_nearest_1 (by decide) ?_
  refine W.lcmp hx hb dX4_nearest_2 ?_
  refine lv_if_ne (tgt := 13) hx hb dX4_nearest_3 (by decide) (fun c1 => ?_) (fun c1 => ?_)
  · have c1 := mt (lg_cmp_eq _ _).mpr c1
    rw [if_neg c1] at hJ
    refine lv_iload_n hx hb dX4_nearest_13 rfl (lv_at hl 0 rfl) ?_
    refine vp_callSi (W.runS (As := [.int a0]) (rest := []) ⟨hx, hb, hml, hown, hts⟩ (qX4_leastExponent l a0) (va_cwS 1 hts gX4_nearest_X4_leastExponent rfl rfl rfl (by decide +kernel) ⟨Nat.le_of_ble_eq_true rfl, Nat.le_of_ble_eq_true rfl⟩) ⟨fun _ _ _ _ q => q, fun U hU hW => rfl⟩ rfl rfl hl.1 rfl (lv_room (Nat.le_of_ble_eq_true rfl)) dX4_nearest_14 ⟨Nat.le_of_ble_eq_true rfl, Nat.le_of_ble_eq_true rfl⟩) (fun r hr => ?_)
    subst hr
    refine lv_topi (fun y2 ey2 => ?_)
    rw [← ey2] at hJ
    rw [jX4_nearest_y2] at hJ
    refine lv_istore (lv' := [(5, .int y2), (0, .int a0), (1, .int a1), (2, .long a2), (4, .int a4)]) hx hb dX4_nearest_17 hl (by decide) rfl (fun ls hl => ?_)
    refine lv_iload hx hb dX4_nearest_19 (lv_at hl 4 rfl) ?_
    refine lv_lload_n hx hb dX4_nearest_21 rfl (lv_at hl 3 rfl) ?_
    refine vp_callSi (W.runS (As := [.long a2]) (rest := [.int a4]) ⟨hx, hb, hml, hown, hts⟩ (qX4_lengthOf l a2) (va_cwS 1 hts gX4_nearest_X4_lengthOf rfl rfl rfl (by decide +kernel) ⟨Nat.le_of_ble_eq_true rfl, Nat.le_of_ble_eq_true rfl⟩) ⟨fun _ _ _ _ q => q, fun U hU hW => rfl⟩ rfl rfl hl.1 rfl (lv_room (Nat.le_of_ble_eq_true rfl)) dX4_nearest_22 ⟨Nat.le_of_ble_eq_true rfl, Nat.le_of_ble_eq_true rfl⟩) (fun r hr => ?_)
    subst hr
    refine lv_iadd hx hb dX4_nearest_25 ?_
    refine lv_iconst (v := (1 : Int32)) hx hb dX4_nearest_26 (by decide) ?_
    refine lv_isub hx hb dX4_nearest_27 ?_
    refine lv_iload_n hx hb dX4_nearest_28 rfl (lv_at hl 1 rfl) ?_
    refine vp_callSi (W.runS (As := [.int a0]) (rest := [.int ((a4 + (jX4_lengthOf a2)) - (1 : Int32))]) ⟨hx, hb, hml, hown, hts⟩ (qX4_width l a0) (va_cwS 1 hts gX4_nearest_X4_width rfl rfl rfl (by decide +kernel) ⟨Nat.le_of_ble_eq_true rfl, Nat.le_of_ble_eq_true rfl⟩) ⟨fun _ _ _ _ q => q, fun U hU hW => rfl⟩ rfl rfl hl.1 rfl (lv_room (Nat.le_of_ble_eq_true rfl)) dX4_nearest_29 ⟨Nat.le_of_ble_eq_true rfl, Nat.le_of_ble_eq_true rfl⟩) (fun r hr => ?_)
    subst hr
    refine lv_isub hx hb dX4_nearest_32 ?_
    refine lv_iload hx hb dX4_nearest_33 (lv_at hl 0 rfl) ?_
    refine va_mmax hx hb (hml.trans hl.1.symm) hown (hts (.methodLink RX4 57 Lib.Math.max.name) (by decide +kernel)) (hts (.static Lib.Math.max.name) (by decide +kernel)) (hts (.initialized "java/lang/Math") (by decide +kernel)) (hts (.code Lib.Math.max.name Lib.Math.max.code 2 (some .int)) (by decide +kernel)) (Nat.le_of_ble_eq_true rfl) (Nat.le_of_ble_eq_true rfl) (Nat.zero_le _) (Nat.zero_le _) dX4_nearest_35 ?_
    refine lv_topi (fun y3 ey3 => ?_)
    rw [← ey3] at hJ
    rw [jX4_nearest_y3] at hJ
    refine lv_istore (lv' := [(6, .int y3), (5, .int y2), (0, .int a0), (1, .int a1), (2, .long a2), (4, .int a4)]) hx hb dX4_nearest_38 hl (by decide) rfl (fun ls hl => ?_)
    refine lv_iload_n hx hb dX4_nearest_40 rfl (lv_at hl 2 rfl) ?_
    refine vp_callSl (W.runS (As := [.int a0]) (rest := []) ⟨hx, hb, hml, hown, hts⟩ (qX4_endless l a0) (va_cwS 1 hts gX4_nearest_X4_endless rfl rfl rfl (by decide +kernel) ⟨Nat.le_of_ble_eq_true rfl, Nat.le_of_ble_eq_true rfl⟩) ⟨fun _ _ _ _ q => q, fun U hU hW => rfl⟩ rfl rfl hl.1 rfl (lv_room (Nat.le_of_ble_eq_true rfl)) dX4_nearest_41 ⟨Nat.le_of_ble_eq_true rfl, Nat.le_of_ble_eq_true rfl⟩) (fun r hr => ?_)
    subst hr
    refine lv_topl (fun y4 ey4 => ?_)
    rw [← ey4] at hJ
    rw [jX4_nearest_y4] at hJ
    refine lv_lstore (lv' := [(7, .long y4), (6, .int y3), (5, .int y2), (0, .int a0), (1, .int a1), (2, .long a2), (4, .int a4)]) hx hb dX4_nearest_44 hl (by decide) rfl (fun ls hl => ?_)
    refine lv_iload hx hb dX4_nearest_46 (lv_at hl 1 rfl) ?_
    refine lv_iload hx hb dX4_nearest_48 (lv_at hl 2 rfl) ?_
    refine lv_isub hx hb dX4_nearest_50 ?_
    refine lv_i2l (v := (y3 - y2).toInt64) hx hb dX4_nearest_51 rfl ?_
    refine lv_topl (fun y5 ey5 => ?_)
    rw [← ey5] at hJ
    rw [jX4_nearest_y5] at hJ
    refine lv_lstore (lv' := [(9, .long y5), (7, .long y4), (6, .int y3), (5, .int y2), (0, .int a0), (1, .int a1), (2, .long a2), (4, .int a4)]) hx hb dX4_nearest_52 hl (by decide) rfl (fun ls hl => ?_)
    refine lv_lload hx hb dX4_nearest_54 (lv_at hl 0 rfl) ?_
    refine lv_lconst (v := (1 : Int64)) hx hb dX4_nearest_56 (by decide) ?_
    refine lv_ladd hx hb dX4_nearest_57 ?_
    refine lv_lload hx hb dX4_nearest_58 (lv_at hl 1 rfl) ?_
    refine lv_iload_n hx hb dX4_nearest_60 rfl (lv_at hl 4 rfl) ?_
    refine vp_callSi (W.runS (As := [.int a0]) (rest := [.long y4, .long (y5 + (1 : Int64))]) ⟨hx, hb, hml, hown, hts⟩ (qX4_width l a0) (va_cwS 1 hts gX4_nearest_X4_width rfl rfl rfl (by decide +kernel) ⟨Nat.le_of_ble_eq_true rfl, Nat.le_of_ble_eq_true rfl⟩) ⟨fun _ _ _ _ q => q, fun U hU hW => rfl⟩ rfl rfl hl.1 rfl (lv_room (Nat.le_of_ble_eq_true rfl)) dX4_nearest_61 ⟨Nat.le_of_ble_eq_true rfl, Nat.le_of_ble_eq_true rfl⟩) (fun r hr => ?_)
    subst hr
    refine lv_lushr (v := (y4.toUInt64 >>> ((jX4_width a0).toInt64.toUInt64 &&& Int64.toUInt64 63)).toInt64) hx hb dX4_nearest_64 rfl ?_
    refine W.lcmp hx hb dX4_nearest_65 ?_
    refine lv_if_lt (tgt := 77) hx hb dX4_nearest_66 (by decide) (fun c6 => ?_) (fun c6 => ?_)
    · have c6 := (lg_cmp_lt _ _).mp c6
      rw [if_pos c6] at hJ
      refine lv_lload hx hb dX4_nearest_77 (lv_at hl 0 rfl) ?_
      refine lv_iload_n hx hb dX4_nearest_79 rfl (lv_at hl 4 rfl) ?_
      refine vp_callSi (W.runS (As := [.int a0]) (rest := [.long y5]) ⟨hx, hb, hml, hown, hts⟩ (qX4_width l a0) (va_cwS 1 hts gX4_nearest_X4_width rfl rfl rfl (by decide +kernel) ⟨Nat.le_of_ble_eq_true rfl, Nat.le_of_ble_eq_true rfl⟩) ⟨fun _ _ _ _ q => q, fun U hU hW => rfl⟩ rfl rfl hl.1 rfl (lv_room (Nat.le_of_ble_eq_true rfl)) dX4_nearest_80 ⟨Nat.le_of_ble_eq_true rfl, Nat.le_of_ble_eq_true rfl⟩) (fun r hr => ?_)
      subst hr
      refine lv_lshl (v := (y5 <<< ((jX4_width a0).toInt64 &&& 63))) hx hb dX4_nearest_83 rfl ?_
      refine lv_lload_n hx hb dX4_nearest_84 rfl (lv_at hl 6 rfl) ?_
      refine lv_iload hx hb dX4_nearest_85 (lv_at hl 2 rfl) ?_
      refine lv_iload hx hb dX4_nearest_87 (lv_at hl 7 rfl) ?_
      refine lv_isub hx hb dX4_nearest_89 ?_
      refine vp_callSl (W.runS (As := [.long a2, .int (y3 - a4)]) (rest := [.long (y5 <<< ((jX4_width a0).toInt64 &&& 63))]) ⟨hx, hb, hml, hown, hts⟩ (qX4_rounded l a2 (y3 - a4)) (va_cwS 2 hts gX4_nearest_X4_rounded rfl rfl rfl (by decide +kernel) ⟨Nat.le_of_ble_eq_true rfl, Nat.le_of_ble_eq_true rfl⟩) ⟨fun _ _ _ _ q => q, fun U hU hW => rfl⟩ rfl rfl hl.1 rfl (lv_room (Nat.le_of_ble_eq_true rfl)) dX4_nearest_90 ⟨Nat.le_of_ble_eq_true rfl, Nat.le_of_ble_eq_true rfl⟩) (fun r hr => ?_)
      subst hr
      refine lv_ladd hx hb dX4_nearest_93 ?_
      refine lv_topl (fun y7 ey7 => ?_)
      rw [← ey7] at hJ
      rw [jX4_nearest_y7] at hJ
      refine lv_lstore (lv' := [(11, .long y7), (9, .long y5), (7, .long y4), (6, .int y3), (5, .int y2), (0, .int a0), (1, .int a1), (2, .long a2), (4, .int a4)]) hx hb dX4_nearest_94 hl (by decide) rfl (fun ls hl => ?_)
      refine lv_iload_n hx hb dX4_nearest_96 rfl (lv_at hl 5 rfl) ?_
      refine lv_iload_n hx hb dX4_nearest_97 rfl (lv_at hl 6 rfl) ?_
      refine lv_lload hx hb dX4_nearest_98 (lv_at hl 0 rfl) ?_
      refine vp_callSl (W.runS (As := [.int a0, .int a1, .long y7]) (rest := []) ⟨hx, hb, hml, hown, hts⟩ (qX4_signed l a0 a1 y7) (va_cwS 3 hts gX4_nearest_X4_signed rfl rfl rfl (by decide +kernel) ⟨Nat.le_of_ble_eq_true rfl, Nat.le_of_ble_eq_true rfl⟩) ⟨fun _ _ _ _ q => q, fun U hU hW => rfl⟩ rfl rfl hl.1 rfl (lv_room (Nat.le_of_ble_eq_true rfl)) dX4_nearest_100 ⟨Nat.le_of_ble_eq_true rfl, Nat.le_of_ble_eq_true rfl⟩) (fun r hr => ?_)
      subst hr
      exact W.lret hx hb hr (fun t ht hW => ⟨_, rfl, hJ.trans hE.symm, ht⟩) (fun q h => absurd h List.not_mem_nil) dX4_nearest_103
    · have c6 := mt (lg_cmp_lt _ _).mpr c6
      rw [if_neg c6] at hJ
      refine lv_iload_n hx hb dX4_nearest_69 rfl (lv_at hl 4 rfl) ?_
      refine lv_iload_n hx hb dX4_nearest_70 rfl (lv_at hl 5 rfl) ?_
      refine lv_lload hx hb dX4_nearest_71 (lv_at hl 1 rfl) ?_
      refine vp_callSl (W.runS (As := [.int a0, .int a1, .long y4]) (rest := []) ⟨hx, hb, hml, hown, hts⟩ (qX4_signed l a0 a1 y4) (va_cwS 3 hts gX4_nearest_X4_signed rfl rfl rfl (by decide +kernel) ⟨Nat.le_of_ble_eq_true rfl, Nat.le_of_ble_eq_true rfl⟩) ⟨fun _ _ _ _ q => q, fun U hU hW => rfl⟩ rfl rfl hl.1 rfl (lv_room (Nat.le_of_ble_eq_true rfl)) dX4_nearest_73 ⟨Nat.le_of_ble_eq_true rfl, Nat.le_of_ble_eq_true rfl⟩) (fun r hr => ?_)
      subst hr
      exact W.lret hx hb hr (fun t ht hW => ⟨_, rfl, hJ.trans hE.symm, ht⟩) (fun q h => absurd h List.not_mem_nil) dX4_nearest_76
  · have c1 := (lg_cmp_eq _ _).mp c1
    rw [if_pos c1] at hJ
    refine lv_iload_n hx hb dX4_nearest_6 rfl (lv_at hl 0 rfl) ?_
    refine lv_iload_n hx hb dX4_nearest_7 rfl (lv_at hl 1 rfl) ?_
    refine lv_lconst (v := (0 : Int64)) hx hb dX4_nearest_8 (by decide) ?_
    refine vp_callSl (W.runS (As := [.int a0, .int a1, .long (0 : Int64)]) (rest := []) ⟨hx, hb, hml, hown, hts⟩ (qX4_signed l a0 a1 (0 : Int64)) (va_cwS 3 hts gX4_nearest_X4_signed rfl rfl rfl (by decide +kernel) ⟨Nat.le_of_ble_eq_true rfl, Nat.le_of_ble_eq_true rfl⟩) ⟨fun _ _ _ _ q => q, fun U hU hW => rfl⟩ rfl rfl hl.1 rfl (lv_room (Nat.le_of_ble_eq_true rfl)) dX4_nearest_9 ⟨Nat.le_of_ble_eq_true rfl, Nat.le_of_ble_eq_true rfl⟩) (fun r hr => ?_)
    subst hr
    exact W.lret hx hb hr (fun t ht hW => ⟨_, rfl, hJ.trans hE.symm, ht⟩) (fun q h => absurd h List.not_mem_nil) dX4_nearest_12
def jX4_timesInt_y5 (a0 : Int64) (a2 : Int32) (y1 : Int32) (y3 : Int32) (y5 : Int32) : Int64 := (jX4_nearest (1 : Int32) y5 ((jX4_mantissa (1 : Int32) a0) * (if 0 < (a2.toInt64) then (a2.toInt64) else -(a2.toInt64))) (jX4_exponent (1 : Int32) a0))
def jX4_timesInt_y3 (a0 : Int64) (a2 : Int32) (y1 : Int32) (y3 : Int32) : Int64 := (jX4_timesInt_y5 a0 a2 y1 y3 (if y1 = y3 then (0 : Int32) else (1 : Int32)))
def jX4_timesInt_y1 (a0 : Int64) (a2 : Int32) (y1 : Int32) : Int64 := (jX4_timesInt_y3 a0 a2 y1 (if 0 ≤ a2 then (0 : Int32) else (1 : Int32)))
def jX4_timesInt (a0 : Int64) (a2 : Int32) : Int64 := (jX4_timesInt_y1 a0 a2 (if (0 : Int64) ≤ a0 then (0 : Int32) else (1 : Int32)))
set_option maxHeartbeats 4000000 in
set_option maxRecDepth 100000 in
theorem qX4_timesInt (l : Launch) (a0 : Int64) (a2 : Int32) : Met l yX4_timesInt wsX4_timesInt ({ frames := 4, cells := 0, slots := 0, locals := 96 }) (fun v _ => v = ([.long a0, .int a2] : List Value).toArray) (vp_Sl (fun r => r = jX4_timesInt a0 a2)) 0 0 (fun _ => False) := by
  refine Met.ofW (cc := cX4_timesInt) (maxL := 4) (ret := some .long) (by decide) rfl ?_
  intro p e s m args below meth c s₁ B hml hv
  subst hv
  have hx := B.exec
  have hb := B.bytes
  have hr := B.returns
  have hts := atoms_spec (ws := wsX4_timesInt) B.pre
  have hown : s.vm.findClass RX4 = some m.cls := findClass_of_methodNamed B.named
  have hlocks := B.notSynchronized
  obtain ⟨JR, hE⟩ : ∃ q, jX4_timesInt a0 a2 = q := ⟨_, rfl⟩
  have hJ := hE
  rw [jX4_timesInt] at hJ
  have hl := lv_entry ([.long a0, .int a2]) (n := 4) (Nat.le_of_ble_eq_true rfl)
  rw [lg_entry_eq]
  generalize (lg_sl ([.long a0, .int a2]) ++ List.replicate (4 - (lg_sl ([.long a0, .int a2])).length) Slot.unset).toArray = ls at hl ⊢
  have hl : lv_has ls 4 [(0, .long a0), (2, .int a2)] := hl
  refine lv_lload_n hx hb dX4_timesInt_0 rfl (lv_at hl 0 rfl) ?_
  refine lv_lconst (v := (0 : Int64)) hx hb dX4_timesInt_1 (by decide) ?_
  refine W.lcmp hx hb dX4_timesInt_2 ?_
  refine jn_i (J := 11) (ls := ls) (v := (if (0 : Int64) ≤ a0 then (0 : Int32) else (1 : Int32))) (rest := []) ?_ (fun y1 ey1 => ?_)
  · intro hj
    refine lv_if_ge (tgt := 10) hx hb dX4_timesInt_3 (by decide) (fun c2 => ?_) (fun c2 => ?_)
    · have c2 := (lg_cmp_ge _ _).mp c2
      rw [if_pos c2] at hj
      refine lv_iconst (v := (0 : Int32)) hx hb dX4_timesInt_10 (by decide) ?_
      exact hj
    · have c2 := mt (lg_cmp_ge _ _).mpr c2
      rw [if_neg c2] at hj
      refine lv_iconst (v := (1 : Int32)) hx hb dX4_timesInt_6 (by decide) ?_
      refine lv_goto (tgt := 11) hx hb dX4_timesInt_7 (by decide) ?_
      exact hj
  rw [← ey1] at hJ
  rw [jX4_timesInt_y1] at hJ
  refine lv_iload_n hx hb dX4_timesInt_11 rfl (lv_at hl 1 rfl) ?_
  refine jn_i (J := 20) (ls := ls) (v := (if 0 ≤ a2 then (0 : Int32) else (1 : Int32))) (rest := [.int y1]) ?_ (fun y3 ey3 => ?_)
  · intro hj
    refine lv_if_ge (tgt := 19) hx hb dX4_timesInt_12 (by decide) (fun c4 => ?_) (fun c4 => ?_)
    · skip
      rw [if_pos c4] at hj
      refine lv_iconst (v := (0 : Int32)) hx hb dX4_timesInt_19 (by decide) ?_
      exact hj
    · skip
      rw [if_neg c4] at hj
      refine lv_iconst (v := (1 : Int32)) hx hb dX4_timesInt_15 (by decide) ?_
      refine lv_goto (tgt := 20) hx hb dX4_timesInt_16 (by decide) ?_
      exact hj
  rw [← ey3] at hJ
  rw [jX4_timesInt_y3] at hJ
  refine jn_i (J := 28) (ls := ls) (v := (if y1 = y3 then (0 : Int32) else (1 : Int32))) (rest := []) ?_ (fun y5 ey5 => ?_)
  · intro hj
    refine lv_icmp_eq (tgt := 27) hx hb dX4_timesInt_20 (by decide) (fun c6 => ?_) (fun c6 => ?_)
    · skip
      rw [if_pos c6] at hj
      refine lv_iconst (v := (0 : Int32)) hx hb dX4_timesInt_27 (by decide) ?_
      exact hj
    · skip
      rw [if_neg c6] at hj
      refine lv_iconst (v := (1 : Int32)) hx hb dX4_timesInt_23 (by decide) ?_
      refine lv_goto (tgt := 28) hx hb dX4_timesInt_24 (by decide) ?_
      exact hj
  rw [← ey5] at hJ
  rw [jX4_timesInt_y5] at hJ
  refine lv_istore_n (lv' := [(3, .int y5), (0, .long a0), (2, .int a2)]) hx hb dX4_timesInt_28 rfl hl (by decide) rfl (fun ls hl => ?_)
  refine lv_iconst (v := (1 : Int32)) hx hb dX4_timesInt_29 (by decide) ?_
  refine lv_iload_n hx hb dX4_timesInt_30 rfl (lv_at hl 0 rfl) ?_
  refine lv_iconst (v := (1 : Int32)) hx hb dX4_timesInt_31 (by decide) ?_
  refine lv_lload_n hx hb dX4_timesInt_32 rfl (lv_at hl 1 rfl) ?_
  refine vp_callSl (W.runS (As := [.int (1 : Int32), .long a0]) (rest := [.int y5, .int (1 : Int32)]) ⟨hx, hb, hml, hown, hts⟩ (qX4_mantissa l (1 : Int32) a0) (va_cwS 2 hts gX4_timesInt_X4_mantissa rfl rfl rfl (by decide +kernel) ⟨Nat.le_of_ble_eq_true rfl, Nat.le_of_ble_eq_true rfl⟩) ⟨fun _ _ _ _ q => q, fun U hU hW => rfl⟩ rfl rfl hl.1 rfl (lv_room (Nat.le_of_ble_eq_true rfl)) dX4_timesInt_33 ⟨Nat.le_of_ble_eq_true rfl, Nat.le_of_ble_eq_true rfl⟩) (fun r hr => ?_)
  subst hr
  refine lv_iload_n hx hb dX4_timesInt_36 rfl (lv_at hl 2 rfl) ?_
  refine lv_i2l (v := a2.toInt64) hx hb dX4_timesInt_37 rfl ?_
  refine va_mabs_long hx hb (hml.trans hl.1.symm) hown (hts (.methodLink RX4 48 Lib.MathLoose.abs_long.x) (by decide +kernel)) (hts (.static Lib.MathLoose.abs_long.x) (by decide +kernel)) (hts (.initialized "java/lang/Math") (by decide +kernel)) (hts (.code Lib.MathLoose.abs_long.x Lib.MathLoose.abs_long.code 2 (some .long)) (by decide +kernel)) (Nat.le_of_ble_eq_true rfl) (Nat.le_of_ble_eq_true rfl) (Nat.zero_le _) (Nat.zero_le _) dX4_timesInt_38 ?_
  refine lv_lmul hx hb dX4_timesInt_41 ?_
  refine lv_iconst (v := (1 : Int32)) hx hb dX4_timesInt_42 (by decide) ?_
  refine lv_lload_n hx hb dX4_timesInt_43 rfl (lv_at hl 1 rfl) ?_
  refine vp_callSi (W.runS (As := [.int (1 : Int32), .long a0]) (rest := [.long ((jX4_mantissa (1 : Int32) a0) * (if 0 < (a2.toInt64) then (a2.toInt64) else -(a2.toInt64))), .int y5, .int (1 : Int32)]) ⟨hx, hb, hml, hown, hts⟩ (qX4_exponent l (1 : Int32) a0) (va_cwS 2 hts gX4_timesInt_X4_exponent rfl rfl rfl (by decide +kernel) ⟨Nat.le_of_ble_eq_true rfl, Nat.le_of_ble_eq_true rfl⟩) ⟨fun _ _ _ _ q => q, fun U hU hW => rfl⟩ rfl rfl hl.1 rfl (lv_room (Nat.le_of_ble_eq_true rfl)) dX4_timesInt_44 ⟨Nat.le_of_ble_eq_true rfl, Nat.le_of_ble_eq_true rfl⟩) (fun r hr => ?_)
  subst hr
  refine vp_callSl (W.runS (As := [.int (1 : Int32), .int y5, .long ((jX4_mantissa (1 : Int32) a0) * (if 0 < (a2.toInt64) then (a2.toInt64) else -(a2.toInt64))), .int (jX4_exponent (1 : Int32) a0)]) (rest := []) ⟨hx, hb, hml, hown, hts⟩ (qX4_nearest l (1 : Int32) y5 ((jX4_mantissa (1 : Int32) a0) * (if 0 < (a2.toInt64) then (a2.toInt64) else -(a2.toInt64))) (jX4_exponent (1 : Int32) a0)) (va_cwS 4 hts gX4_timesInt_X4_nearest rfl rfl rfl (by decide +kernel) ⟨Nat.le_of_ble_eq_true rfl, Nat.le_of_ble_eq_true rfl⟩) ⟨fun _ _ _ _ q => q, fun U hU hW => rfl⟩ rfl rfl hl.1 rfl (lv_room (Nat.le_of_ble_eq_true rfl)) dX4_timesInt_47 ⟨Nat.le_of_ble_eq_true rfl, Nat.le_of_ble_eq_true rfl⟩) (fun r hr => ?_)
  subst hr
  exact W.lret hx hb hr (fun t ht hW => ⟨_, rfl, hJ.trans hE.symm, ht⟩) (fun q h => absurd h List.not_mem_nil) dX4_timesInt_50
def jX4_sum_y18 (a0 : Int32) (a1 : Int64) (a3 : Int64) (y1 : Int32) (y3 : Int64) (y5 : Int64) (y7 : Int64) (y8 : Int32) (y9 : Int64) (y10 : Int32) (y12 : Int32) (y14 : Int32) (y16 : Int64) (y18 : Int32) : Int64 := (jX4_nearest a0 y18 y16 ((jX4_exponent a0 y3) - (3 : Int32)))
def jX4_sum_y16 (a0 : Int32) (a1 : Int64) (a3 : Int64) (y1 : Int32) (y3 : Int64) (y5 : Int64) (y7 : Int64) (y8 : Int32) (y9 : Int64) (y10 : Int32) (y12 : Int32) (y14 : Int32) (y16 : Int64) : Int64 := (jX4_sum_y18 a0 a1 a3 y1 y3 y5 y7 y8 y9 y10 y12 y14 y16 (if (0 : Int64) ≤ y3 then (0 : Int32) else (if y16 = (0 : Int64) then (if (0 : Int64) ≤ y5 then (0 : Int32) else (1 : Int32)) else (1 : Int32))))
def jX4_sum_y14 (a0 : Int32) (a1 : Int64) (a3 : Int64) (y1 : Int32) (y3 : Int64) (y5 : Int64) (y7 : Int64) (y8 : Int32) (y9 : Int64) (y10 : Int32) (y12 : Int32) (y14 : Int32) : Int64 := (jX4_sum_y16 a0 a1 a3 y1 y3 y5 y7 y8 y9 y10 y12 y14 (if y14 = 0 then (y7 - y9) else (y7 + y9)))
def jX4_sum_y12 (a0 : Int32) (a1 : Int64) (a3 : Int64) (y1 : Int32) (y3 : Int64) (y5 : Int64) (y7 : Int64) (y8 : Int32) (y9 : Int64) (y10 : Int32) (y12 : Int32) : Int64 := (jX4_sum_y14 a0 a1 a3 y1 y3 y5 y7 y8 y9 y10 y12 (if y10 = y12 then (1 : Int32) else (0 : Int32)))
def jX4_sum_y10 (a0 : Int32) (a1 : Int64) (a3 : Int64) (y1 : Int32) (y3 : Int64) (y5 : Int64) (y7 : Int64) (y8 : Int32) (y9 : Int64) (y10 : Int32) : Int64 := (jX4_sum_y12 a0 a1 a3 y1 y3 y5 y7 y8 y9 y10 (if (0 : Int64) ≤ y5 then (0 : Int32) else (1 : Int32)))
def jX4_sum_y9 (a0 : Int32) (a1 : Int64) (a3 : Int64) (y1 : Int32) (y3 : Int64) (y5 : Int64) (y7 : Int64) (y8 : Int32) (y9 : Int64) : Int64 := (jX4_sum_y10 a0 a1 a3 y1 y3 y5 y7 y8 y9 (if (0 : Int64) ≤ y3 then (0 : Int32) else (1 : Int32)))
def jX4_sum_y8 (a0 : Int32) (a1 : Int64) (a3 : Int64) (y1 : Int32) (y3 : Int64) (y5 : Int64) (y7 : Int64) (y8 : Int32) : Int64 := (jX4_sum_y9 a0 a1 a3 y1 y3 y5 y7 y8 (jX4_shiftedOut ((jX4_mantissa a0 y5) <<< ((3 : Int32).toInt64 &&& 63)) y8))
def jX4_sum_y7 (a0 : Int32) (a1 : Int64) (a3 : Int64) (y1 : Int32) (y3 : Int64) (y5 : Int64) (y7 : Int64) : Int64 := (jX4_sum_y8 a0 a1 a3 y1 y3 y5 y7 ((jX4_exponent a0 y3) - (jX4_exponent a0 y5)))
def jX4_sum_y5 (a0 : Int32) (a1 : Int64) (a3 : Int64) (y1 : Int32) (y3 : Int64) (y5 : Int64) : Int64 := (jX4_sum_y7 a0 a1 a3 y1 y3 y5 ((jX4_mantissa a0 y3) <<< ((3 : Int32).toInt64 &&& 63)))
def jX4_sum_y3 (a0 : Int32) (a1 : Int64) (a3 : Int64) (y1 : Int32) (y3 : Int64) : Int64 := (jX4_sum_y5 a0 a1 a3 y1 y3 (if y1 = 0 then a1 else a3))
def jX4_sum_y1 (a0 : Int32) (a1 : Int64) (a3 : Int64) (y1 : Int32) : Int64 := (jX4_sum_y3 a0 a1 a3 y1 (if y1 = 0 then a3 else a1))
def jX4_sum (a0 : Int32) (a1 : Int64) (a3 : Int64) : Int64 := (jX4_sum_y1 a0 a1 a3 (if (jX4_sizeOf a0 a1) < (jX4_sizeOf a0 a3) then (0 : Int32) else (1 : Int32)))
set_option maxHeartbeats 4000000 in
set_option maxRecDepth 100000 in
theorem qX4_sum (l : Launch) (a0 : Int32) (a1 : Int64) (a3 : Int64) : Met l yX4_sum wsX4_sum ({ frames := 4, cells := 0, slots := 0, locals := 96 }) (fun v _ => v = ([.int a0, .long a1, .long a3] : List Value).toArray) (vp_Sl (fun r => r = jX4_sum a0 a1 a3)) 0 0 (fun _ => False) := by
  refine Met.ofW (cc := cX4_sum) (maxL := 19) (ret := some .long) (by decide) rfl ?_
  intro p e s m args below meth c s₁ B hml hv
  subst hv
  have hx := B.exec
  have hb := B.bytes
  have hr := B.returns
  have hts := atoms_spec (ws := wsX4_sum) B.pre
  have hown : s.vm.findClass RX4 = some m.cls := findClass_of_methodNamed B.named
  have hlocks := B.notSynchronized
  obtain ⟨JR, hE⟩ : ∃ q, jX4_sum a0 a1 a3 = q := ⟨_, rfl⟩
  have hJ := hE
  rw [jX4_sum] at hJ
  have hl := lv_entry ([.int a0, .long a1, .long a3]) (n := 19) (Nat.le_of_ble_eq_true rfl)
  rw [lg_entry_eq]
  generalize (lg_sl ([.int a0, .long a1, .long a3]) ++ List.replicate (19 - (lg_sl ([.int a0, .long a1, .long a3])).length) Slot.unset).toArray = ls at hl ⊢
  have hl : lv_has ls 19 [(0, .int a0), (1, .long a1), (3, .long a3)] := hl
  refine lv_iload_n hx hb dX4_sum_0 rfl (lv_at hl 0 rfl) ?_
  refine lv_lload_n hx hb dX4_sum_1 rfl (lv_at hl 1 rfl) ?_
  refine vp_callSl (W.runS (As := [.int a0, .long a1]) (rest := []) ⟨hx, hb, hml, hown, hts⟩ (qX4_sizeOf l a0 a1) (va_cwS 2 hts gX4_sum_X4_sizeOf rfl rfl rfl (by decide +kernel) ⟨Nat.le_of_ble_eq_true rfl, Nat.le_of_ble_eq_true rfl⟩) ⟨fun _ _ _ _ q => q, fun U hU hW => rfl⟩ rfl rfl hl.1 rfl (lv_room (Nat.le_of_ble_eq_true rfl)) dX4_sum_2 ⟨Nat.le_of_ble_eq_true rfl, Nat.le_of_ble_eq_true rfl⟩) (fun r hr => ?_)
  subst hr
  refine lv_iload_n hx hb dX4_sum_5 rfl (lv_at hl 0 rfl) ?_
  refine lv_lload_n hx hb dX4_sum_6 rfl (lv_at hl 2 rfl) ?_
  refine vp_callSl (W.runS (As := [.int a0, .long a3]) (rest := [.long (jX4_sizeOf a0 a1)]) ⟨hx, hb, hml, hown, hts⟩ (qX4_sizeOf l a0 a3) (va_cwS 2 hts gX4_sum_X4_sizeOf rfl rfl rfl (by decide +kernel) ⟨Nat.le_of_ble_eq_true rfl, Nat.le_of_ble_eq_true rfl⟩) ⟨fun _ _ _ _ q => q, fun U hU hW => rfl⟩ rfl rfl hl.1 rfl (lv_room (Nat.le_of_ble_eq_true rfl)) dX4_sum_7 ⟨Nat.le_of_ble_eq_true rfl, Nat.le_of_ble_eq_true rfl⟩) (fun r hr => ?_)
  subst hr
  refine W.lcmp hx hb dX4_sum_10 ?_
  refine jn_i (J := 19) (ls := ls) (v := (if (jX4_sizeOf a0 a1) < (jX4_sizeOf a0 a3) then (0 : Int32) else (1 : Int32))) (rest := []) ?_ (fun y1 ey1 => ?_)
  · intro hj
    refine lv_if_lt (tgt := 18) hx hb dX4_sum_11 (by decide) (fun c2 => ?_) (fun c2 => ?_)
    · have c2 := (lg_cmp_lt _ _).mp c2
      rw [if_pos c2] at hj
      refine lv_iconst (v := (0 : Int32)) hx hb dX4_sum_18 (by decide) ?_
      exact hj
    · have c2 := mt (lg_cmp_lt _ _).mpr c2
      rw [if_neg c2] at hj
      refine lv_iconst (v := (1 : Int32)) hx hb dX4_sum_14 (by decide) ?_
      refine lv_goto (tgt := 19) hx hb dX4_sum_15 (by decide) ?_
      exact hj
  rw [← ey1] at hJ
  rw [jX4_sum_y1] at hJ
  refine lv_istore (lv' := [(5, .int y1), (0, .int a0), (1, .long a1), (3, .long a3)]) hx hb dX4_sum_19 hl (by decide) rfl (fun ls hl => ?_)
  refine lv_iload hx hb dX4_sum_21 (lv_at hl 0 rfl) ?_
  refine jn_l (J := 31) (ls := ls) (v := (if y1 = 0 then a3 else a1)) (rest := []) ?_ (fun y3 ey3 => ?_)
  · intro hj
    refine lv_if_eq (tgt := 30) hx hb dX4_sum_23 (by decide) (fun c4 => ?_) (fun c4 => ?_)
    · skip
      rw [if_pos c4] at hj
      refine lv_lload_n hx hb dX4_sum_30 rfl (lv_at hl 3 rfl) ?_
      exact hj
    · skip
      rw [if_neg c4] at hj
      refine lv_lload_n hx hb dX4_sum_26 rfl (lv_at hl 2 rfl) ?_
      refine lv_goto (tgt := 31) hx hb dX4_sum_27 (by decide) ?_
      exact hj
  rw [← ey3] at hJ
  rw [jX4_sum_y3] at hJ
  refine lv_lstore (lv' := [(6, .long y3), (5, .int y1), (0, .int a0), (1, .long a1), (3, .long a3)]) hx hb dX4_sum_31 hl (by decide) rfl (fun ls hl => ?_)
  refine lv_iload hx hb dX4_sum_33 (lv_at hl 1 rfl) ?_
  refine jn_l (J := 43) (ls := ls) (v := (if y1 = 0 then a1 else a3)) (rest := []) ?_ (fun y5 ey5 => ?_)
  · intro hj
    refine lv_if_eq (tgt := 42) hx hb dX4_sum_35 (by decide) (fun c6 => ?_) (fun c6 => ?_)
    · skip
      rw [if_pos c6] at hj
      refine lv_lload_n hx hb dX4_sum_42 rfl (lv_at hl 3 rfl) ?_
      exact hj
    · skip
      rw [if_neg c6] at hj
      refine lv_lload_n hx hb dX4_sum_38 rfl (lv_at hl 4 rfl) ?_
      refine lv_goto (tgt := 43) hx hb dX4_sum_39 (by decide) ?_
      exact hj
  rw [← ey5] at hJ
  rw [jX4_sum_y5] at hJ
  refine lv_lstore (lv' := [(8, .long y5), (6, .long y3), (5, .int y1), (0, .int a0), (1, .long a1), (3, .long a3)]) hx hb dX4_sum_43 hl (by decide) rfl (fun ls hl => ?_)
  refine lv_iload_n hx hb dX4_sum_45 rfl (lv_at hl 3 rfl) ?_
  refine lv_lload hx hb dX4_sum_46 (lv_at hl 1 rfl) ?_
  refine vp_callSl (W.runS (As := [.int a0, .long y3]) (rest := []) ⟨hx, hb, hml, hown, hts⟩ (qX4_mantissa l a0 y3) (va_cwS 2 hts gX4_sum_X4_mantissa rfl rfl rfl (by decide +kernel) ⟨Nat.le_of_ble_eq_true rfl, Nat.le_of_ble_eq_true rfl⟩) ⟨fun _ _ _ _ q => q, fun U hU hW => rfl⟩ rfl rfl hl.1 rfl (lv_room (Nat.le_of_ble_eq_true rfl)) dX4_sum_48 ⟨Nat.le_of_ble_eq_true rfl, Nat.le_of_ble_eq_true rfl⟩) (fun r hr => ?_)
  subst hr
  refine lv_iconst (v := (3 : Int32)) hx hb dX4_sum_51 (by decide) ?_
  refine lv_lshl (v := ((jX4_mantissa a0 y3) <<< ((3 : Int32).toInt64 &&& 63))) hx hb dX4_sum_52 rfl ?_
  refine lv_topl (fun y7 ey7 => ?_)
  rw [← ey7] at hJ
  rw [jX4_sum_y7] at hJ
  refine lv_lstore (lv' := [(10, .long y7), (8, .long y5), (6, .long y3), (5, .int y1), (0, .int a0), (1, .long a1), (3, .long a3)]) hx hb dX4_sum_53 hl (by decide) rfl (fun ls hl => ?_)
  refine lv_iload_n hx hb dX4_sum_55 rfl (lv_at hl 4 rfl) ?_
  refine lv_lload hx hb dX4_sum_56 (lv_at hl 2 rfl) ?_
  refine vp_callSi (W.runS (As := [.int a0, .long y3]) (rest := []) ⟨hx, hb, hml, hown, hts⟩ (qX4_exponent l a0 y3) (va_cwS 2 hts gX4_sum_X4_exponent rfl rfl rfl (by decide +kernel) ⟨Nat.le_of_ble_eq_true rfl, Nat.le_of_ble_eq_true rfl⟩) ⟨fun _ _ _ _ q => q, fun U hU hW => rfl⟩ rfl rfl hl.1 rfl (lv_room (Nat.le_of_ble_eq_true rfl)) dX4_sum_58 ⟨Nat.le_of_ble_eq_true rfl, Nat.le_of_ble_eq_true rfl⟩) (fun r hr => ?_)
  subst hr
  refine lv_iload_n hx hb dX4_sum_61 rfl (lv_at hl 4 rfl) ?_
  refine lv_lload hx hb dX4_sum_62 (lv_at hl 1 rfl) ?_
  refine vp_callSi (W.runS (As := [.int a0, .long y5]) (rest := [.int (jX4_exponent a0 y3)]) ⟨hx, hb, hml, hown, hts⟩ (qX4_exponent l a0 y5) (va_cwS 2 hts gX4_sum_X4_exponent rfl rfl rfl (by decide +kernel) ⟨Nat.le_of_ble_eq_true rfl, Nat.le_of_ble_eq_true rfl⟩) ⟨fun _ _ _ _ q => q, fun U hU hW => rfl⟩ rfl rfl hl.1 rfl (lv_room (Nat.le_of_ble_eq_true rfl)) dX4_sum_64 ⟨Nat.le_of_ble_eq_true rfl, Nat.le_of_ble_eq_true rfl⟩) (fun r hr => ?_)
  subst hr
  refine lv_isub hx hb dX4_sum_67 ?_
  refine lv_topi (fun y8 ey8 => ?_)
  rw [← ey8] at hJ
  rw [jX4_sum_y8] at hJ
  refine lv_istore (lv' := [(12, .int y8), (10, .long y7), (8, .long y5), (6, .long y3), (5, .int y1), (0, .int a0), (1, .long a1), (3, .long a3)]) hx hb dX4_sum_68 hl (by decide) rfl (fun ls hl => ?_)
  refine lv_iload_n hx hb dX4_sum_70 rfl (lv_at hl 5 rfl) ?_
  refine lv_lload hx hb dX4_sum_71 (lv_at hl 2 rfl) ?_
  refine vp_callSl (W.runS (As := [.int a0, .long y5]) (rest := []) ⟨hx, hb, hml, hown, hts⟩ (qX4_mantissa l a0 y5) (va_cwS 2 hts gX4_sum_X4_mantissa rfl rfl rfl (by decide +kernel) ⟨Nat.le_of_ble_eq_true rfl, Nat.le_of_ble_eq_true rfl⟩) ⟨fun _ _ _ _ q => q, fun U hU hW => rfl⟩ rfl rfl hl.1 rfl (lv_room (Nat.le_of_ble_eq_true rfl)) dX4_sum_73 ⟨Nat.le_of_ble_eq_true rfl, Nat.le_of_ble_eq_true rfl⟩) (fun r hr => ?_)
  subst hr
  refine lv_iconst (v := (3 : Int32)) hx hb dX4_sum_76 (by decide) ?_
  refine lv_lshl (v := ((jX4_mantissa a0 y5) <<< ((3 : Int32).toInt64 &&& 63))) hx hb dX4_sum_77 rfl ?_
  refine lv_iload hx hb dX4_sum_78 (lv_at hl 0 rfl) ?_
  refine vp_callSl (W.runS (As := [.long ((jX4_mantissa a0 y5) <<< ((3 : Int32).toInt64 &&& 63)), .int y8]) (rest := []) ⟨hx, hb, hml, hown, hts⟩ (qX4_shiftedOut l ((jX4_mantissa a0 y5) <<< ((3 : Int32).toInt64 &&& 63)) y8) (va_cwS 2 hts gX4_sum_X4_shiftedOut rfl rfl rfl (by decide +kernel) ⟨Nat.le_of_ble_eq_true rfl, Nat.le_of_ble_eq_true rfl⟩) ⟨fun _ _ _ _ q => q, fun U hU hW => rfl⟩ rfl rfl hl.1 rfl (lv_room (Nat.le_of_ble_eq_true rfl)) dX4_sum_80 ⟨Nat.le_of_ble_eq_true rfl, Nat.le_of_ble_eq_true rfl⟩) (fun r hr => ?_)
  subst hr
  refine lv_topl (fun y9 ey9 => ?_)
  rw [← ey9] at hJ
  rw [jX4_sum_y9] at hJ
  refine lv_lstore (lv' := [(13, .long y9), (12, .int y8), (10, .long y7), (8, .long y5), (6, .long y3), (5, .int y1), (0, .int a0), (1, .long a1), (3, .long a3)]) hx hb dX4_sum_83 hl (by decide) rfl (fun ls hl => ?_)
  refine lv_lload hx hb dX4_sum_85 (lv_at hl 4 rfl) ?_
  refine lv_lconst (v := (0 : Int64)) hx hb dX4_sum_87 (by decide) ?_
  refine W.lcmp hx hb dX4_sum_88 ?_
  refine jn_i (J := 97) (ls := ls) (v := (if (0 : Int64) ≤ y3 then (0 : Int32) else (1 : Int32))) (rest := []) ?_ (fun y10 ey10 => ?_)
  · intro hj
    refine lv_if_ge (tgt := 96) hx hb dX4_sum_89 (by decide) (fun c11 => ?_) (fun c11 => ?_)
    · have c11 := (lg_cmp_ge _ _).mp c11
      rw [if_pos c11] at hj
      refine lv_iconst (v := (0 : Int32)) hx hb dX4_sum_96 (by decide) ?_
      exact hj
    · have c11 := mt (lg_cmp_ge _ _).mpr c11
      rw [if_neg c11] at hj
      refine lv_iconst (v := (1 : Int32)) hx hb dX4_sum_92 (by decide) ?_
      refine lv_goto (tgt := 97) hx hb dX4_sum_93 (by decide) ?_
      exact hj
  rw [← ey10] at hJ
  rw [jX4_sum_y10] at hJ
  refine lv_lload hx hb dX4_sum_97 (lv_at hl 3 rfl) ?_
  refine lv_lconst (v := (0 : Int64)) hx hb dX4_sum_99 (by decide) ?_
  refine W.lcmp hx hb dX4_sum_100 ?_
  refine jn_i (J := 109) (ls := ls) (v := (if (0 : Int64) ≤ y5 then (0 : Int32) else (1 : Int32))) (rest := [.int y10]) ?_ (fun y12 ey12 => ?_)
  · intro hj
    refine lv_if_ge (tgt := 108) hx hb dX4_sum_101 (by decide) (fun c13 => ?_) (fun c13 => ?_)
    · have c13 := (lg_cmp_ge _ _).mp c13
      rw [if_pos c13] at hj
      refine lv_iconst (v := (0 : Int32)) hx hb dX4_sum_108 (by decide) ?_
      exact hj
    · have c13 := mt (lg_cmp_ge _ _).mpr c13
      rw [if_neg c13] at hj
      refine lv_iconst (v := (1 : Int32)) hx hb dX4_sum_104 (by decide) ?_
      refine lv_goto (tgt := 109) hx hb dX4_sum_105 (by decide) ?_
      exact hj
  rw [← ey12] at hJ
  rw [jX4_sum_y12] at hJ
  refine jn_i (J := 117) (ls := ls) (v := (if y10 = y12 then (1 : Int32) else (0 : Int32))) (rest := []) ?_ (fun y14 ey14 => ?_)
  · intro hj
    refine lv_icmp_ne (tgt := 116) hx hb dX4_sum_109 (by decide) (fun c15 => ?_) (fun c15 => ?_)
    · skip
      rw [if_neg c15] at hj
      refine lv_iconst (v := (0 : Int32)) hx hb dX4_sum_116 (by decide) ?_
      exact hj
    · skip
      rw [if_pos c15] at hj
      refine lv_iconst (v := (1 : Int32)) hx hb dX4_sum_112 (by decide) ?_
      refine lv_goto (tgt := 117) hx hb dX4_sum_113 (by decide) ?_
      exact hj
  rw [← ey14] at hJ
  rw [jX4_sum_y14] at hJ
  refine lv_istore (lv' := [(15, .int y14), (13, .long y9), (12, .int y8), (10, .long y7), (8, .long y5), (6, .long y3), (5, .int y1), (0, .int a0), (1, .long a1), (3, .long a3)]) hx hb dX4_sum_117 hl (by decide) rfl (fun ls hl => ?_)
  refine lv_iload hx hb dX4_sum_119 (lv_at hl 0 rfl) ?_
  refine jn_l (J := 137) (ls := ls) (v := (if y14 = 0 then (y7 - y9) else (y7 + y9))) (rest := []) ?_ (fun y16 ey16 => ?_)
  · intro hj
    refine lv_if_eq (tgt := 132) hx hb dX4_sum_121 (by decide) (fun c17 => ?_) (fun c17 => ?_)
    · skip
      rw [if_pos c17] at hj
      refine lv_lload hx hb dX4_sum_132 (lv_at hl 3 rfl) ?_
      refine lv_lload hx hb dX4_sum_134 (lv_at hl 1 rfl) ?_
      refine lv_lsub hx hb dX4_sum_136 ?_
      exact hj
    · skip
      rw [if_neg c17] at hj
      refine lv_lload hx hb dX4_sum_124 (lv_at hl 3 rfl) ?_
      refine lv_lload hx hb dX4_sum_126 (lv_at hl 1 rfl) ?_
      refine lv_ladd hx hb dX4_sum_128 ?_
      refine lv_goto (tgt := 137) hx hb dX4_sum_129 (by decide) ?_
      exact hj
  rw [← ey16] at hJ
  rw [jX4_sum_y16] at hJ
  refine lv_lstore (lv' := [(16, .long y16), (15, .int y14), (13, .long y9), (12, .int y8), (10, .long y7), (8, .long y5), (6, .long y3), (5, .int y1), (0, .int a0), (1, .long a1), (3, .long a3)]) hx hb dX4_sum_137 hl (by decide) rfl (fun ls hl => ?_)
  refine lv_lload hx hb dX4_sum_139 (lv_at hl 6 rfl) ?_
  refine lv_lconst (v := (0 : Int64)) hx hb dX4_sum_141 (by decide) ?_
  refine W.lcmp hx hb dX4_sum_142 ?_
  refine jn_i (J := 165) (ls := ls) (v := (if (0 : Int64) ≤ y3 then (0 : Int32) else (if y16 = (0 : Int64) then (if (0 : Int64) ≤ y5 then (0 : Int32) else (1 : Int32)) else (1 : Int32)))) (rest := []) ?_ (fun y18 ey18 => ?_)
  · intro hj
    refine lv_if_ge (tgt := 164) hx hb dX4_sum_143 (by decide) (fun c19 => ?_) (fun c19 => ?_)
    · have c19 := (lg_cmp_ge _ _).mp c19
      rw [if_pos c19] at hj
      refine lv_iconst (v := (0 : Int32)) hx hb dX4_sum_164 (by decide) ?_
      exact hj
    · have c19 := mt (lg_cmp_ge _ _).mpr c19
      rw [if_neg c19] at hj
      refine lv_lload hx hb dX4_sum_146 (lv_at hl 0 rfl) ?_
      refine lv_lconst (v := (0 : Int64)) hx hb dX4_sum_148 (by decide) ?_
      refine W.lcmp hx hb dX4_sum_149 ?_
      refine lv_if_ne (tgt := 160) hx hb dX4_sum_150 (by decide) (fun c20 => ?_) (fun c20 => ?_)
      · have c20 := mt (lg_cmp_eq _ _).mpr c20
        rw [if_neg c20] at hj
        refine lv_iconst (v := (1 : Int32)) hx hb dX4_sum_160 (by decide) ?_
        refine lv_goto (tgt := 165) hx hb dX4_sum_161 (by decide) ?_
        exact hj
      · have c20 := (lg_cmp_eq _ _).mp c20
        rw [if_pos c20] at hj
        refine lv_lload hx hb dX4_sum_153 (lv_at hl 5 rfl) ?_
        refine lv_lconst (v := (0 : Int64)) hx hb dX4_sum_155 (by decide) ?_
        refine W.lcmp hx hb dX4_sum_156 ?_
        refine lv_if_ge (tgt := 164) hx hb dX4_sum_157 (by decide) (fun c21 => ?_) (fun c21 => ?_)
        · have c21 := (lg_cmp_ge _ _).mp c21
          rw [if_pos c21] at hj
          refine lv_iconst (v := (0 : Int32)) hx hb dX4_sum_164 (by decide) ?_
          exact hj
        · have c21 := mt (lg_cmp_ge _ _).mpr c21
          rw [if_neg c21] at hj
          refine lv_iconst (v := (1 : Int32)) hx hb dX4_sum_160 (by decide) ?_
          refine lv_goto (tgt := 165) hx hb dX4_sum_161 (by decide) ?_
          exact hj
  rw [← ey18] at hJ
  rw [jX4_sum_y18] at hJ
  refine lv_istore (lv' := [(18, .int y18), (16, .long y16), (15, .int y14), (13, .long y9), (12, .int y8), (10, .long y7), (8, .long y5), (6, .long y3), (5, .int y1), (0, .int a0), (1, .long a1), (3, .long a3)]) hx hb dX4_sum_165 hl (by decide) rfl (fun ls hl => ?_)
  refine lv_iload_n hx hb dX4_sum_167 rfl (lv_at hl 9 rfl) ?_
  refine lv_iload hx hb dX4_sum_168 (lv_at hl 0 rfl) ?_
  refine lv_lload hx hb dX4_sum_170 (lv_at hl 1 rfl) ?_
  refine lv_iload_n hx hb dX4_sum_172 rfl (lv_at hl 9 rfl) ?_
  refine lv_lload hx hb dX4_sum_173 (lv_at hl 7 rfl) ?_
  refine vp_callSi (W.runS (As := [.int a0, .long y3]) (rest := [.long y16, .int y18, .int a0]) ⟨hx, hb, hml, hown, hts⟩ (qX4_exponent l a0 y3) (va_cwS 2 hts gX4_sum_X4_exponent rfl rfl rfl (by decide +kernel) ⟨Nat.le_of_ble_eq_true rfl, Nat.le_of_ble_eq_true rfl⟩) ⟨fun _ _ _ _ q => q, fun U hU hW => rfl⟩ rfl rfl hl.1 rfl (lv_room (Nat.le_of_ble_eq_true rfl)) dX4_sum_175 ⟨Nat.le_of_ble_eq_true rfl, Nat.le_of_ble_eq_true rfl⟩) (fun r hr => ?_)
  subst hr
  refine lv_iconst (v := (3 : Int32)) hx hb dX4_sum_178 (by decide) ?_
  refine lv_isub hx hb dX4_sum_179 ?_
  refine vp_callSl (W.runS (As := [.int a0, .int y18, .long y16, .int ((jX4_exponent a0 y3) - (3 : Int32))]) (rest := []) ⟨hx, hb, hml, hown, hts⟩ (qX4_nearest l a0 y18 y16 ((jX4_exponent a0 y3) - (3 : Int32))) (va_cwS 4 hts gX4_sum_X4_nearest rfl rfl rfl (by decide +kernel) ⟨Nat.le_of_ble_eq_true rfl, Nat.le_of_ble_eq_true rfl⟩) ⟨fun _ _ _ _ q => q, fun U hU hW => rfl⟩ rfl rfl hl.1 rfl (lv_room (Nat.le_of_ble_eq_true rfl)) dX4_sum_180 ⟨Nat.le_of_ble_eq_true rfl, Nat.le_of_ble_eq_true rfl⟩) (fun r hr => ?_)
  subst hr
  exact W.lret hx hb hr (fun t ht hW => ⟨_, rfl, hJ.trans hE.symm, ht⟩) (fun q h => absurd h List.not_mem_nil) dX4_sum_183
def jX4_cutToLong_y5 (a0 : Int32) (a1 : Int64) (y1 : Int64) (y2 : Int32) (y5 : Int64) : Int64 := (if (0 : Int64) ≤ a1 then y5 else (-y5))
def jX4_cutToLong_y2 (a0 : Int32) (a1 : Int64) (y1 : Int64) (y2 : Int32) : Int64 := (if ((jX4_lengthOf y1) + y2) ≤ (63 : Int32) then (if (-64 : Int32) < y2 then (jX4_cutToLong_y5 a0 a1 y1 y2 (if 0 ≤ y2 then (y1 <<< (y2.toInt64 &&& 63)) else ((y1.toUInt64 >>> ((-y2).toInt64.toUInt64 &&& Int64.toUInt64 63)).toInt64))) else (0 : Int64)) else (if (0 : Int64) ≤ a1 then (9223372036854775807 : Int64) else (-9223372036854775808 : Int64)))
def jX4_cutToLong_y1 (a0 : Int32) (a1 : Int64) (y1 : Int64) : Int64 := (jX4_cutToLong_y2 a0 a1 y1 (jX4_exponent a0 a1))
def jX4_cutToLong (a0 : Int32) (a1 : Int64) : Int64 := (jX4_cutToLong_y1 a0 a1 (jX4_mantissa a0 a1))
set_option maxHeartbeats 4000000 in
set_option maxRecDepth 100000 in
theorem qX4_cutToLong (l : Launch) (a0 : Int32) (a1 : Int64) : Met l yX4_cutToLong wsX4_cutToLong ({ frames := 3, cells := 0, slots := 0, locals := 64 }) (fun v _ => v = ([.int a0, .long a1] : List Value).toArray) (vp_Sl (fun r => r = jX4_cutToLong a0 a1)) 0 0 (fun _ => False) := by
  refine Met.ofW (cc := cX4_cutToLong) (maxL := 8) (ret := some .long) (by decide) rfl ?_
  intro p e s m args below meth c s₁ B hml hv
  subst hv
  have hx := B.exec
  have hb := B.bytes
  have hr := B.returns
  have hts := atoms_spec (ws := wsX4_cutToLong) B.pre
  have hown : s.vm.findClass RX4 = some m.cls := findClass_of_methodNamed B.named
  have hlocks := B.notSynchronized
  obtain ⟨JR, hE⟩ : ∃ q, jX4_cutToLong a0 a1 = q := ⟨_, rfl⟩
  have hJ := hE
  rw [jX4_cutToLong] at hJ
  have hl := lv_entry ([.int a0, .long a1]) (n := 8) (Nat.le_of_ble_eq_true rfl)
  rw [lg_entry_eq]
  generalize (lg_sl ([.int a0, .long a1]) ++ List.replicate (8 - (lg_sl ([.int a0, .long a1])).length) Slot.unset).toArray = ls at hl ⊢
  have hl : lv_has ls 8 [(0, .int a0), (1, .long a1)] := hl
  refine lv_iload_n hx hb dX4_cutToLong_0 rfl (lv_at hl 0 rfl) ?_
  refine lv_lload_n hx hb dX4_cutToLong_1 rfl (lv_at hl 1 rfl) ?_
  refine vp_callSl (W.runS (As := [.int a0, .long a1]) (rest := []) ⟨hx, hb, hml, hown, hts⟩ (qX4_mantissa l a0 a1) (va_cwS 2 hts gX4_cutToLong_X4_mantissa rfl rfl rfl (by decide +kernel) ⟨Nat.le_of_ble_eq_true rfl, Nat.le_of_ble_eq_true rfl⟩) ⟨fun _ _ _ _ q => q, fun U hU hW => rfl⟩ rfl rfl hl.1 rfl (lv_room (Nat.le_of_ble_eq_true rfl)) dX4_cutToLong_2 ⟨Nat.le_of_ble_eq_true rfl, Nat.le_of_ble_eq_true rfl⟩) (fun r hr => ?_)
  subst hr
  refine lv_topl (fun y1 ey1 => ?_)
  rw [← ey1] at hJ
  rw [jX4_cutToLong_y1] at hJ
  refine lv_lstore_n (lv' := [(3, .long y1), (0, .int a0), (1, .long a1)]) hx hb dX4_cutToLong_5 rfl hl (by decide) rfl (fun ls hl => ?_)
  refine lv_iload_n hx hb dX4_cutToLong_6 rfl (lv_at hl 1 rfl) ?_
  refine lv_lload_n hx hb dX4_cutToLong_7 rfl (lv_at hl 2 rfl) ?_
  refine vp_callSi (W.runS (As := [.int a0, .long a1]) (rest := []) ⟨hx, hb, hml, hown, hts⟩ (qX4_exponent l a0 a1) (va_cwS 2 hts gX4_cutToLong_X4_exponent rfl rfl rfl (by decide +kernel) ⟨Nat.le_of_ble_eq_true rfl, Nat.le_of_ble_eq_true rfl⟩) ⟨fun _ _ _ _ q => q, fun U hU hW => rfl⟩ rfl rfl hl.1 rfl (lv_room (Nat.le_of_ble_eq_true rfl)) dX4_cutToLong_8 ⟨Nat.le_of_ble_eq_true rfl, Nat.le_of_ble_eq_true rfl⟩) (fun r hr => ?_)
  subst hr
  refine lv_topi (fun y2 ey2 => ?_)
  rw [← ey2] at hJ
  rw [jX4_cutToLong_y2] at hJ
  refine lv_istore (lv' := [(5, .int y2), (3, .long y1), (0, .int a0), (1, .long a1)]) hx hb dX4_cutToLong_11 hl (by decide) rfl (fun ls hl => ?_)
  refine lv_lload_n hx hb dX4_cutToLong_13 rfl (lv_at hl 1 rfl) ?_
  refine vp_callSi (W.runS (As := [.long y1]) (rest := []) ⟨hx, hb, hml, hown, hts⟩ (qX4_lengthOf l y1) (va_cwS 1 hts gX4_cutToLong_X4_lengthOf rfl rfl rfl (by decide +kernel) ⟨Nat.le_of_ble_eq_true rfl, Nat.le_of_ble_eq_true rfl⟩) ⟨fun _ _ _ _ q => q, fun U hU hW => rfl⟩ rfl rfl hl.1 rfl (lv_room (Nat.le_of_ble_eq_true rfl)) dX4_cutToLong_14 ⟨Nat.le_of_ble_eq_true rfl, Nat.le_of_ble_eq_true rfl⟩) (fun r hr => ?_)
  subst hr
  refine lv_iload hx hb dX4_cutToLong_17 (lv_at hl 0 rfl) ?_
  refine lv_iadd hx hb dX4_cutToLong_19 ?_
  refine lv_bipush (v := (63 : Int32)) hx hb dX4_cutToLong_20 (by decide) ?_
  refine lv_icmp_le (tgt := 41) hx hb dX4_cutToLong_22 (by decide) (fun c3 => ?_) (fun c3 => ?_)
  · skip
    rw [if_pos c3] at hJ
    refine lv_iload hx hb dX4_cutToLong_41 (lv_at hl 0 rfl) ?_
    refine lv_bipush (v := (-64 : Int32)) hx hb dX4_cutToLong_43 (by decide) ?_
    refine lv_icmp_gt (tgt := 50) hx hb dX4_cutToLong_45 (by decide) (fun c4 => ?_) (fun c4 => ?_)
    · skip
      rw [if_pos c4] at hJ
      refine lv_iload hx hb dX4_cutToLong_50 (lv_at hl 0 rfl) ?_
      refine jn_l (J := 67) (ls := ls) (v := (if 0 ≤ y2 then (y1 <<< (y2.toInt64 &&& 63)) else ((y1.toUInt64 >>> ((-y2).toInt64.toUInt64 &&& Int64.toUInt64 63)).toInt64))) (rest := []) ?_ (fun y5 ey5 => ?_)
      · intro hj
        refine lv_if_ge (tgt := 63) hx hb dX4_cutToLong_52 (by decide) (fun c6 => ?_) (fun c6 => ?_)
        · skip
          rw [if_pos c6] at hj
          refine lv_lload_n hx hb dX4_cutToLong_63 rfl (lv_at hl 1 rfl) ?_
          refine lv_iload hx hb dX4_cutToLong_64 (lv_at hl 0 rfl) ?_
          refine lv_lshl (v := (y1 <<< (y2.toInt64 &&& 63))) hx hb dX4_cutToLong_66 rfl ?_
          exact hj
        · skip
          rw [if_neg c6] at hj
          refine lv_lload_n hx hb dX4_cutToLong_55 rfl (lv_at hl 1 rfl) ?_
          refine lv_iload hx hb dX4_cutToLong_56 (lv_at hl 0 rfl) ?_
          refine lv_ineg hx hb dX4_cutToLong_58 ?_
          refine lv_lushr (v := (y1.toUInt64 >>> ((-y2).toInt64.toUInt64 &&& Int64.toUInt64 63)).toInt64) hx hb dX4_cutToLong_59 rfl ?_
          refine lv_goto (tgt := 67) hx hb dX4_cutToLong_60 (by decide) ?_
          exact hj
      rw [← ey5] at hJ
      rw [jX4_cutToLong_y5] at hJ
      refine lv_lstore (lv' := [(6, .long y5), (5, .int y2), (3, .long y1), (0, .int a0), (1, .long a1)]) hx hb dX4_cutToLong_67 hl (by decide) rfl (fun ls hl => ?_)
      refine lv_lload_n hx hb dX4_cutToLong_69 rfl (lv_at hl 4 rfl) ?_
      refine lv_lconst (v := (0 : Int64)) hx hb dX4_cutToLong_70 (by decide) ?_
      refine W.lcmp hx hb dX4_cutToLong_71 ?_
      refine lv_if_ge (tgt := 81) hx hb dX4_cutToLong_72 (by decide) (fun c7 => ?_) (fun c7 => ?_)
      · have c7 := (lg_cmp_ge _ _).mp c7
        rw [if_pos c7] at hJ
        refine lv_lload hx hb dX4_cutToLong_81 (lv_at hl 0 rfl) ?_
        exact W.lret hx hb hr (fun t ht hW => ⟨_, rfl, hJ.trans hE.symm, ht⟩) (fun q h => absurd h List.not_mem_nil) dX4_cutToLong_83
      · have c7 := mt (lg_cmp_ge _ _).mpr c7
        rw [if_neg c7] at hJ
        refine lv_lload hx hb dX4_cutToLong_75 (lv_at hl 0 rfl) ?_
        refine lv_lneg hx hb dX4_cutToLong_77 ?_
        refine lv_goto (tgt := 83) hx hb dX4_cutToLong_78 (by decide) ?_
        exact W.lret hx hb hr (fun t ht hW => ⟨_, rfl, hJ.trans hE.symm, ht⟩) (fun q h => absurd h List.not_mem_nil) dX4_cutToLong_83
    · skip
      rw [if_neg c4] at hJ
      refine lv_lconst (v := (0 : Int64)) hx hb dX4_cutToLong_48 (by decide) ?_
      exact W.lret hx hb hr (fun t ht hW => ⟨_, rfl, hJ.trans hE.symm, ht⟩) (fun q h => absurd h List.not_mem_nil) dX4_cutToLong_49
  · skip
    rw [if_neg c3] at hJ
    refine lv_lload_n hx hb dX4_cutToLong_25 rfl (lv_at hl 3 rfl) ?_
    refine lv_lconst (v := (0 : Int64)) hx hb dX4_cutToLong_26 (by decide) ?_
    refine W.lcmp hx hb dX4_cutToLong_27 ?_
    refine lv_if_ge (tgt := 37) hx hb dX4_cutToLong_28 (by decide) (fun c8 => ?_) (fun c8 => ?_)
    · have c8 := (lg_cmp_ge _ _).mp c8
      rw [if_pos c8] at hJ
      refine lv_ldc2 (v := (9223372036854775807 : Int64)) hx hb hown (hts (.constantLong RX4 68 (9223372036854775807)) (by decide +kernel)) dX4_cutToLong_37 ?_
      exact W.lret hx hb hr (fun t ht hW => ⟨_, rfl, hJ.trans hE.symm, ht⟩) (fun q h => absurd h List.not_mem_nil) dX4_cutToLong_40
    · have c8 := mt (lg_cmp_ge _ _).mpr c8
      rw [if_neg c8] at hJ
      refine lv_ldc2 (v := (-9223372036854775808 : Int64)) hx hb hown (hts (.constantLong RX4 19 (-9223372036854775808)) (by decide +kernel)) dX4_cutToLong_31 ?_
      refine lv_goto (tgt := 40) hx hb dX4_cutToLong_34 (by decide) ?_
      exact W.lret hx hb hr (fun t ht hW => ⟨_, rfl, hJ.trans hE.symm, ht⟩) (fun q h => absurd h List.not_mem_nil) dX4_cutToLong_40
def jX4_ofLong_y1 (a0 : Int32) (a1 : Int64) (y1 : Int32) : Int64 := (jX4_nearest a0 y1 (if 0 < a1 then a1 else -a1) (0 : Int32))
def jX4_ofLong (a0 : Int32) (a1 : Int64) : Int64 := (jX4_ofLong_y1 a0 a1 (if (0 : Int64) ≤ a1 then (0 : Int32) else (1 : Int32)))
set_option maxHeartbeats 4000000 in
set_option maxRecDepth 100000 in
theorem qX4_ofLong (l : Launch) (a0 : Int32) (a1 : Int64) : Met l yX4_ofLong wsX4_ofLong ({ frames := 4, cells := 0, slots := 0, locals := 96 }) (fun v _ => v = ([.int a0, .long a1] : List Value).toArray) (vp_Sl (fun r => r = jX4_ofLong a0 a1)) 0 0 (fun _ => False) := by
  refine Met.ofW (cc := cX4_ofLong) (maxL := 3) (ret := some .long) (by decide) rfl ?_
  intro p e s m args below meth c s₁ B hml hv
  subst hv
  have hx := B.exec
  have hb := B.bytes
  have hr := B.returns
  have hts := atoms_spec (ws := wsX4_ofLong) B.pre
  have hown : s.vm.findClass RX4 = some m.cls := findClass_of_methodNamed B.named
  have hlocks := B.notSynchronized
  obtain ⟨JR, hE⟩ : ∃ q, jX4_ofLong a0 a1 = q := ⟨_, rfl⟩
  have hJ := hE
  rw [jX4_ofLong] at hJ
  have hl := lv_entry ([.int a0, .long a1]) (n := 3) (Nat.le_of_ble_eq_true rfl)
  rw [lg_entry_eq]
  generalize (lg_sl ([.int a0, .long a1]) ++ List.replicate (3 - (lg_sl ([.int a0, .long a1])).length) Slot.unset).toArray = ls at hl ⊢
  have hl : lv_has ls 3 [(0, .int a0), (1, .long a1)] := hl
  refine lv_iload_n hx hb dX4_ofLong_0 rfl (lv_at hl 0 rfl) ?_
  refine lv_lload_n hx hb dX4_ofLong_1 rfl (lv_at hl 1 rfl) ?_
  refine lv_lconst (v := (0 : Int64)) hx hb dX4_ofLong_2 (by decide) ?_
  refine W.lcmp hx hb dX4_ofLong_3 ?_
  refine jn_i (J := 12) (ls := ls) (v := (if (0 : Int64) ≤ a1 then (0 : Int32) else (1 : Int32))) (rest := [.int a0]) ?_ (fun y1 ey1 => ?_)
  · intro hj
    refine lv_if_ge (tgt := 11) hx hb dX4_ofLong_4 (by decide) (fun c2 => ?_) (fun c2 => ?_)
    · have c2 := (lg_cmp_ge _ _).mp c2
      rw [if_pos c2] at hj
      refine lv_iconst (v := (0 : Int32)) hx hb dX4_ofLong_11 (by decide) ?_
      exact hj
    · have c2 := mt (lg_cmp_ge _ _).mpr c2
      rw [if_neg c2] at hj
      refine lv_iconst (v := (1 : Int32)) hx hb dX4_ofLong_7 (by decide) ?_
      refine lv_goto (tgt := 12) hx hb dX4_ofLong_8 (by decide) ?_
      exact hj
  rw [← ey1] at hJ
  rw [jX4_ofLong_y1] at hJ
  refine lv_lload_n hx hb dX4_ofLong_12 rfl (lv_at hl 1 rfl) ?_
  refine va_mabs_long hx hb (hml.trans hl.1.symm) hown (hts (.methodLink RX4 48 Lib.MathLoose.abs_long.x) (by decide +kernel)) (hts (.static Lib.MathLoose.abs_long.x) (by decide +kernel)) (hts (.initialized "java/lang/Math") (by decide +kernel)) (hts (.code Lib.MathLoose.abs_long.x Lib.MathLoose.abs_long.code 2 (some .long)) (by decide +kernel)) (Nat.le_of_ble_eq_true rfl) (Nat.le_of_ble_eq_true rfl) (Nat.zero_le _) (Nat.zero_le _) dX4_ofLong_13 ?_
  refine lv_iconst (v := (0 : Int32)) hx hb dX4_ofLong_16 (by decide) ?_
  refine vp_callSl (W.runS (As := [.int a0, .int y1, .long (if 0 < a1 then a1 else -a1), .int (0 : Int32)]) (rest := []) ⟨hx, hb, hml, hown, hts⟩ (qX4_nearest l a0 y1 (if 0 < a1 then a1 else -a1) (0 : Int32)) (va_cwS 4 hts gX4_ofLong_X4_nearest rfl rfl rfl (by decide +kernel) ⟨Nat.le_of_ble_eq_true rfl, Nat.le_of_ble_eq_true rfl⟩) ⟨fun _ _ _ _ q => q, fun U hU hW => rfl⟩ rfl rfl hl.1 rfl (lv_room (Nat.le_of_ble_eq_true rfl)) dX4_ofLong_17 ⟨Nat.le_of_ble_eq_true rfl, Nat.le_of_ble_eq_true rfl⟩) (fun r hr => ?_)
  subst hr
  exact W.lret hx hb hr (fun t ht hW => ⟨_, rfl, hJ.trans hE.symm, ht⟩) (fun q h => absurd h List.not_mem_nil) dX4_ofLong_20
def jX4_ofReal_y2 (a0 : Int32) (a1 : Int32) (a2 : Int64) (y2 : Int32) : Int64 := (jX4_nearest a1 y2 (jX4_mantissa a0 a2) (jX4_exponent a0 a2))
def jX4_ofReal_y4 (a0 : Int32) (a1 : Int32) (a2 : Int64) (y4 : Int32) : Int64 := (jX4_signed a1 y4 (jX4_endless a1))
def jX4_ofReal (a0 : Int32) (a1 : Int32) (a2 : Int64) : Int64 := (if (jX4_isFit a0 a2) = 0 then (jX4_ofReal_y4 a0 a1 a2 (if (0 : Int64) ≤ a2 then (0 : Int32) else (1 : Int32))) else (jX4_ofReal_y2 a0 a1 a2 (if (0 : Int64) ≤ a2 then (0 : Int32) else (1 : Int32))))
set_option maxHeartbeats 4000000 in
set_option maxRecDepth 100000 in
theorem qX4_ofReal (l : Launch) (a0 : Int32) (a1 : Int32) (a2 : Int64) : Met l yX4_ofReal wsX4_ofReal ({ frames := 4, cells := 0, slots := 0, locals := 96 }) (fun v _ => v = ([.int a0, .int a1, .long a2] : List Value).toArray) (vp_Sl (fun r => r = jX4_ofReal a0 a1 a2)) 0 0 (fun _ => False) := by
  refine Met.ofW (cc := cX4_ofReal) (maxL := 4) (ret := some .long) (by decide) rfl ?_
  intro p e s m args below meth c s₁ B hml hv
  subst hv
  have hx := B.exec
  have hb := B.bytes
  have hr := B.returns
  have hts := atoms_spec (ws := wsX4_ofReal) B.pre
  have hown : s.vm.findClass RX4 = some m.cls := findClass_of_methodNamed B.named
  have hlocks := B.notSynchronized
  obtain ⟨JR, hE⟩ : ∃ q, jX4_ofReal a0 a1 a2 = q := ⟨_, rfl⟩
  have hJ := hE
  rw [jX4_ofReal] at hJ
  have hl := lv_entry ([.int a0, .int a1, .long a2]) (n := 4) (Nat.le_of_ble_eq_true rfl)
  rw [lg_entry_eq]
  generalize (lg_sl ([.int a0, .int a1, .long a2]) ++ List.replicate (4 - (lg_sl ([.int a0, .int a1, .long a2])).length) Slot.unset).toArray = ls at hl ⊢
  have hl : lv_has ls 4 [(0, .int a0), (1, .int a1), (2, .long a2)] := hl
  refine lv_iload_n hx hb dX4_ofReal_0 rfl (lv_at hl 0 rfl) ?_
  refine lv_lload_n hx hb dX4_ofReal_1 rfl (lv_at hl 2 rfl) ?_
  refine vp_callSi (W.runS (As := [.int a0, .long a2]) (rest := []) ⟨hx, hb, hml, hown, hts⟩ (qX4_isFit l a0 a2) (va_cwS 2 hts gX4_ofReal_X4_isFit rfl rfl rfl (by decide +kernel) ⟨Nat.le_of_ble_eq_true rfl, Nat.le_of_ble_eq_true rfl⟩) ⟨fun _ _ _ _ q => q, fun U hU hW => rfl⟩ rfl rfl hl.1 rfl (lv_room (Nat.le_of_ble_eq_true rfl)) dX4_ofReal_2 ⟨Nat.le_of_ble_eq_true rfl, Nat.le_of_ble_eq_true rfl⟩) (fun r hr => ?_)
  subst hr
  refine lv_if_ne (tgt := 28) hx hb dX4_ofReal_5 (by decide) (fun c1 => ?_) (fun c1 => ?_)
  · skip
    rw [if_neg c1] at hJ
    refine lv_iload_n hx hb dX4_ofReal_28 rfl (lv_at hl 1 rfl) ?_
    refine lv_lload_n hx hb dX4_ofReal_29 rfl (lv_at hl 2 rfl) ?_
    refine lv_lconst (v := (0 : Int64)) hx hb dX4_ofReal_30 (by decide) ?_
    refine W.lcmp hx hb dX4_ofReal_31 ?_
    refine jn_i (J := 40) (ls := ls) (v := (if (0 : Int64) ≤ a2 then (0 : Int32) else (1 : Int32))) (rest := [.int a1]) ?_ (fun y2 ey2 => ?_)
    · intro hj
      refine lv_if_ge (tgt := 39) hx hb dX4_ofReal_32 (by decide) (fun c3 => ?_) (fun c3 => ?_)
      · have c3 := (lg_cmp_ge _ _).mp c3
        rw [if_pos c3] at hj
        refine lv_iconst (v := (0 : Int32)) hx hb dX4_ofReal_39 (by decide) ?_
        exact hj
      · have c3 := mt (lg_cmp_ge _ _).mpr c3
        rw [if_neg c3] at hj
        refine lv_iconst (v := (1 : Int32)) hx hb dX4_ofReal_35 (by decide) ?_
        refine lv_goto (tgt := 40) hx hb dX4_ofReal_36 (by decide) ?_
        exact hj
    rw [← ey2] at hJ
    rw [jX4_ofReal_y2] at hJ
    refine lv_iload_n hx hb dX4_ofReal_40 rfl (lv_at hl 0 rfl) ?_
    refine lv_lload_n hx hb dX4_ofReal_41 rfl (lv_at hl 2 rfl) ?_
    refine vp_callSl (W.runS (As := [.int a0, .long a2]) (rest := [.int y2, .int a1]) ⟨hx, hb, hml, hown, hts⟩ (qX4_mantissa l a0 a2) (va_cwS 2 hts gX4_ofReal_X4_mantissa rfl rfl rfl (by decide +kernel) ⟨Nat.le_of_ble_eq_true rfl, Nat.le_of_ble_eq_true rfl⟩) ⟨fun _ _ _ _ q => q, fun U hU hW => rfl⟩ rfl rfl hl.1 rfl (lv_room (Nat.le_of_ble_eq_true rfl)) dX4_ofReal_42 ⟨Nat.le_of_ble_eq_true rfl, Nat.le_of_ble_eq_true rfl⟩) (fun r hr => ?_)
    subst hr
    refine lv_iload_n hx hb dX4_ofReal_45 rfl (lv_at hl 0 rfl) ?_
    refine lv_lload_n hx hb dX4_ofReal_46 rfl (lv_at hl 2 rfl) ?_
    refine vp_callSi (W.runS (As := [.int a0, .long a2]) (rest := [.long (jX4_mantissa a0 a2), .int y2, .int a1]) ⟨hx, hb, hml, hown, hts⟩ (qX4_exponent l a0 a2) (va_cwS 2 hts gX4_ofReal_X4_exponent rfl rfl rfl (by decide +kernel) ⟨Nat.le_of_ble_eq_true rfl, Nat.le_of_ble_eq_true rfl⟩) ⟨fun _ _ _ _ q => q, fun U hU hW => rfl⟩ rfl rfl hl.1 rfl (lv_room (Nat.le_of_ble_eq_true rfl)) dX4_ofReal_47 ⟨Nat.le_of_ble_eq_true rfl, Nat.le_of_ble_eq_true rfl⟩) (fun r hr => ?_)
    subst hr
    refine vp_callSl (W.runS (As := [.int a1, .int y2, .long (jX4_mantissa a0 a2), .int (jX4_exponent a0 a2)]) (rest := []) ⟨hx, hb, hml, hown, hts⟩ (qX4_nearest l a1 y2 (jX4_mantissa a0 a2) (jX4_exponent a0 a2)) (va_cwS 4 hts gX4_ofReal_X4_nearest rfl rfl rfl (by decide +kernel) ⟨Nat.le_of_ble_eq_true rfl, Nat.le_of_ble_eq_true rfl⟩) ⟨fun _ _ _ _ q => q, fun U hU hW => rfl⟩ rfl rfl hl.1 rfl (lv_room (Nat.le_of_ble_eq_true rfl)) dX4_ofReal_50 ⟨Nat.le_of_ble_eq_true rfl, Nat.le_of_ble_eq_true rfl⟩) (fun r hr => ?_)
    subst hr
    exact W.lret hx hb hr (fun t ht hW => ⟨_, rfl, hJ.trans hE.symm, ht⟩) (fun q h => absurd h List.not_mem_nil) dX4_ofReal_53
  · skip
    rw [if_pos c1] at hJ
    refine lv_iload_n hx hb dX4_ofReal_8 rfl (lv_at hl 1 rfl) ?_
    refine lv_lload_n hx hb dX4_ofReal_9 rfl (lv_at hl 2 rfl) ?_
    refine lv_lconst (v := (0 : Int64)) hx hb dX4_ofReal_10 (by decide) ?_
    refine W.lcmp hx hb dX4_ofReal_11 ?_
    refine jn_i (J := 20) (ls := ls) (v := (if (0 : Int64) ≤ a2 then (0 : Int32) else (1 : Int32))) (rest := [.int a1]) ?_ (fun y4 ey4 => ?_)
    · intro hj
      refine lv_if_ge (tgt := 19) hx hb dX4_ofReal_12 (by decide) (fun c5 => ?_) (fun c5 => ?_)
      · have c5 := (lg_cmp_ge _ _).mp c5
        rw [if_pos c5] at hj
        refine lv_iconst (v := (0 : Int32)) hx hb dX4_ofReal_19 (by decide) ?_
        exact hj
      · have c5 := mt (lg_cmp_ge _ _).mpr c5
        rw [if_neg c5] at hj
        refine lv_iconst (v := (1 : Int32)) hx hb dX4_ofReal_15 (by decide) ?_
        refine lv_goto (tgt := 20) hx hb dX4_ofReal_16 (by decide) ?_
        exact hj
    rw [← ey4] at hJ
    rw [jX4_ofReal_y4] at hJ
    refine lv_iload_n hx hb dX4_ofReal_20 rfl (lv_at hl 1 rfl) ?_
    refine vp_callSl (W.runS (As := [.int a1]) (rest := [.int y4, .int a1]) ⟨hx, hb, hml, hown, hts⟩ (qX4_endless l a1) (va_cwS 1 hts gX4_ofReal_X4_endless rfl rfl rfl (by decide +kernel) ⟨Nat.le_of_ble_eq_true rfl, Nat.le_of_ble_eq_true rfl⟩) ⟨fun _ _ _ _ q => q, fun U hU hW => rfl⟩ rfl rfl hl.1 rfl (lv_room (Nat.le_of_ble_eq_true rfl)) dX4_ofReal_21 ⟨Nat.le_of_ble_eq_true rfl, Nat.le_of_ble_eq_true rfl⟩) (fun r hr => ?_)
    subst hr
    refine vp_callSl (W.runS (As := [.int a1, .int y4, .long (jX4_endless a1)]) (rest := []) ⟨hx, hb, hml, hown, hts⟩ (qX4_signed l a1 y4 (jX4_endless a1)) (va_cwS 3 hts gX4_ofReal_X4_signed rfl rfl rfl (by decide +kernel) ⟨Nat.le_of_ble_eq_true rfl, Nat.le_of_ble_eq_true rfl⟩) ⟨fun _ _ _ _ q => q, fun U hU hW => rfl⟩ rfl rfl hl.1 rfl (lv_room (Nat.le_of_ble_eq_true rfl)) dX4_ofReal_24 ⟨Nat.le_of_ble_eq_true rfl, Nat.le_of_ble_eq_true rfl⟩) (fun r hr => ?_)
    subst hr
    exact W.lret hx hb hr (fun t ht hW => ⟨_, rfl, hJ.trans hE.symm, ht⟩) (fun q h => absurd h List.not_mem_nil) dX4_ofReal_27
end
section
/-! ===== lN n to 2^64: shifts, and, or, masks, one bit ===== -/
theorem wb_tb (n : Nat) : (lN n).toBitVec = BitVec.ofNat 64 n := rfl
theorem wb_inj {a b : Int64} (h : a.toBitVec = b.toBitVec) : a = b := Int64.toBitVec_inj.mp h
theorem wb_tn {n : Nat} (h : n < 2 ^ 64) : (lN n).toBitVec.toNat = n := by rw [wb_tb, BitVec.toNat_ofNat, Nat.mod_eq_of_lt h]
theorem wb_of (x : Int64) : ∃ n, n < 2 ^ 64 ∧ x = lN n := ⟨x.toBitVec.toNat, x.toBitVec.isLt, wb_inj (by rw [wb_tb]; simp)⟩
theorem wb_of32 (x : Int32) : ∃ n, n < 2 ^ 32 ∧ x = nI n := ⟨x.toBitVec.toNat, x.toBitVec.isLt, Int32.toBitVec_inj.mp (by show _ = BitVec.ofNat 32 _; simp)⟩
theorem wb_c : ∀ k, k < 64 → ((nI k).toInt64 &&& 63) = lN k := by decide +kernel
theorem wb_cu : ∀ k, k < 64 → ((nI k).toInt64.toUInt64 &&& Int64.toUInt64 63) = UInt64.ofNat k := by decide +kernel
theorem wb_sm : ∀ k, k < 64 → (BitVec.ofNat 64 k).smod 64 = BitVec.ofNat 64 k := by decide +kernel
theorem wb_pw {a b : Nat} (h : a ≤ b) : 2 ^ b = 2 ^ a * 2 ^ (b - a) := by rw [← Nat.pow_add]; congr 1; omega
theorem wb_lt2 {a b : Nat} (h : a < b) : 2 ^ a < 2 ^ b := Nat.pow_lt_pow_right (by decide) h
theorem wb_mod (n : Nat) : lN n = lN (n % 2 ^ 64) := wb_inj (by rw [wb_tb, wb_tb]; apply BitVec.eq_of_toNat_eq; rw [BitVec.toNat_ofNat, BitVec.toNat_ofNat, Nat.mod_mod])
theorem wb_shr {n k : Nat} (hn : n < 2 ^ 64) (hk : k < 64) : ((lN n).toUInt64 >>> ((nI k).toInt64.toUInt64 &&& Int64.toUInt64 63)).toInt64 = lN (n / 2 ^ k) := by
  rw [wb_cu k hk]
  apply wb_inj
  apply BitVec.eq_of_toNat_eq
  show ((lN n).toUInt64 >>> UInt64.ofNat k).toNat = (BitVec.ofNat 64 _).toNat
  have h1 : (UInt64.ofNat k).toNat = k := by
    show (BitVec.ofNat 64 k).toNat = k
    rw [BitVec.toNat_ofNat, Nat.mod_eq_of_lt (by omega)]
  have h2 : (lN n).toUInt64.toNat = n := wb_tn hn
  rw [UInt64.toNat_shiftRight, h1, h2, Nat.mod_eq_of_lt hk, Nat.shiftRight_eq_div_pow, BitVec.toNat_ofNat, Nat.mod_eq_of_lt (Nat.lt_of_le_of_lt (Nat.div_le_self _ _) hn)]
theorem wb_shl (n : Nat) {k : Nat} (hk : k < 64) : lN n <<< ((nI k).toInt64 &&& 63) = lN (n * 2 ^ k) := by
  rw [wb_c k hk]
  apply wb_inj
  rw [Int64.toBitVec_shiftLeft, wb_tb, wb_tb, wb_tb, wb_sm k hk]
  apply BitVec.eq_of_toNat_eq
  rw [BitVec.shiftLeft_eq', BitVec.toNat_shiftLeft, BitVec.toNat_ofNat, BitVec.toNat_ofNat, BitVec.toNat_ofNat, Nat.mod_eq_of_lt (show k < 2 ^ 64 by omega), Nat.shiftLeft_eq, Nat.mul_mod, Nat.mod_mod, ← Nat.mul_mod]
theorem wb_and {a b : Nat} (ha : a < 2 ^ 64) (hb : b < 2 ^ 64) : lN a &&& lN b = lN (a &&& b) := by
  apply wb_inj
  rw [Int64.toBitVec_and, wb_tb, wb_tb, wb_tb]
  apply BitVec.eq_of_toNat_eq
  rw [BitVec.toNat_and, BitVec.toNat_ofNat, BitVec.toNat_ofNat, BitVec.toNat_ofNat, Nat.mod_eq_of_lt ha, Nat.mod_eq_of_lt hb, Nat.mod_eq_of_lt (Nat.and_lt_two_pow _ hb)]
theorem wb_or {a b : Nat} (ha : a < 2 ^ 64) (hb : b < 2 ^ 64) : lN a ||| lN b = lN (a ||| b) := by
  apply wb_inj
  rw [Int64.toBitVec_or, wb_tb, wb_tb, wb_tb]
  apply BitVec.eq_of_toNat_eq
  rw [BitVec.toNat_or, BitVec.toNat_ofNat, BitVec.toNat_ofNat, BitVec.toNat_ofNat, Nat.mod_eq_of_lt ha, Nat.mod_eq_of_lt hb, Nat.mod_eq_of_lt (Nat.or_lt_two_pow ha hb)]
theorem wb_mask {n k : Nat} (hn : n < 2 ^ 64) (hk : k < 64) : lN n &&& lN (2 ^ k - 1) = lN (n % 2 ^ k) := by
  rw [wb_and hn (by have := wb_lt2 hk; omega), Nat.and_two_pow_sub_one_eq_mod]
theorem wb_a1 {n : Nat} (hn : n < 2 ^ 64) : lN n &&& 1 = lN (n % 2) := wb_mask (k := 1) hn (by decide)
theorem wb_bit {n k : Nat} (hn : n < 2 ^ 64) (hk : k < 64) : ((lN n).toUInt64 >>> ((nI k).toInt64.toUInt64 &&& Int64.toUInt64 63)).toInt64 &&& 1 = lN (n / 2 ^ k % 2) := by
  rw [wb_shr hn hk, wb_a1 (Nat.lt_of_le_of_lt (Nat.div_le_self _ _) hn)]
theorem wb_xor {q k : Nat} (hk : k < 63) (h : 2 ^ k ≤ q) (h2 : q < 2 ^ (k + 1)) : lN q ^^^ lN (2 ^ k) = lN (q - 2 ^ k) := by
  obtain ⟨r, rfl⟩ : ∃ r, q = 2 ^ k + r := ⟨q - 2 ^ k, by omega⟩
  have hr : r < 2 ^ k := by rw [Nat.pow_succ] at h2; omega
  have hx : (2 ^ k + r) ^^^ 2 ^ k = r := by
    apply Nat.eq_of_testBit_eq
    intro i
    rw [Nat.testBit_xor, Nat.testBit_two_pow]
    rcases Nat.lt_trichotomy i k with h | h | h
    · rw [Nat.testBit_two_pow_add_gt h]
      simp [show ¬ k = i by omega]
    · subst h
      rw [Nat.testBit_two_pow_add_eq]
      simp
    · have a1 : 2 ^ (k + 1) ≤ 2 ^ i := Nat.pow_le_pow_right (by decide) h
      rw [Nat.testBit_lt_two_pow (show 2 ^ k + r < 2 ^ i by omega), Nat.testBit_lt_two_pow (show r < 2 ^ i by omega)]
      simp [show ¬ k = i by omega]
  have b1 := wb_lt2 (show k + 1 < 64 by omega)
  have b2 := wb_lt2 (show k < 64 by omega)
  apply wb_inj
  rw [Int64.toBitVec_xor, wb_tb, wb_tb, wb_tb]
  apply BitVec.eq_of_toNat_eq
  rw [BitVec.toNat_xor, BitVec.toNat_ofNat, BitVec.toNat_ofNat, BitVec.toNat_ofNat, Nat.mod_eq_of_lt (by omega : 2 ^ k + r < 2 ^ 64), Nat.mod_eq_of_lt b2, hx, Nat.add_sub_cancel_left, Nat.mod_eq_of_lt (by omega)]
end
section
/-! numbers of the class as whole numbers: Int32 by iI, Int64 by lN -/
def iI (z : Int) : Int32 := Int32.ofInt z
theorem iI_add (a b : Int) : iI a + iI b = iI (a + b) := (Int32.ofInt_add a b).symm
theorem iI_sub (a b : Int) : iI a - iI b = iI (a - b) := (Int32.ofInt_sub a b).symm
theorem iI_neg (a : Int) : -iI a = iI (-a) := (Int32.ofInt_neg a).symm
theorem iI_toInt {z : Int} (h1 : -2147483648 ≤ z) (h2 : z < 2147483648) : (iI z).toInt = z := Int32.toInt_ofInt_of_le (by omega) (by omega)
theorem iI_lt {a b : Int} (ha : -2147483648 ≤ a) (ha2 : a < 2147483648) (hb : -2147483648 ≤ b) (hb2 : b < 2147483648) : iI a < iI b ↔ a < b := by
  rw [Int32.lt_iff_toInt_lt, iI_toInt ha ha2, iI_toInt hb hb2]
theorem iI_le {a b : Int} (ha : -2147483648 ≤ a) (ha2 : a < 2147483648) (hb : -2147483648 ≤ b) (hb2 : b < 2147483648) : iI a ≤ iI b ↔ a ≤ b := by
  rw [Int32.le_iff_toInt_le, iI_toInt ha ha2, iI_toInt hb hb2]
theorem iI_n (n : Nat) : nI n = iI n := Int32.toBitVec_inj.mp (by show BitVec.ofNat 32 n = BitVec.ofInt 32 (n : Int); rw [BitVec.ofInt_natCast])
theorem l_toInt {n : Nat} (h : n < 9223372036854775808) : (lN n).toInt = (n : Int) := lg_ofNat_toInt h
theorem l_le {a b : Nat} (ha : a < 9223372036854775808) (hb : b < 9223372036854775808) : lN a ≤ lN b ↔ a ≤ b := by
  rw [Int64.le_iff_toInt_le, l_toInt ha, l_toInt hb]; omega
theorem l_lt {a b : Nat} (ha : a < 9223372036854775808) (hb : b < 9223372036854775808) : lN a < lN b ↔ a < b := by
  rw [Int64.lt_iff_toInt_lt, l_toInt ha, l_toInt hb]; omega
theorem l_eq {a b : Nat} (ha : a < 2 ^ 64) (hb : b < 2 ^ 64) : lN a = lN b ↔ a = b := by
  constructor
  · intro h
    have h2 := congrArg (fun x : Int64 => x.toBitVec.toNat) h
    simp only [wb_tn ha, wb_tn hb] at h2
    exact h2
  · intro h; rw [h]
theorem n_eq {a b : Nat} (ha : a < 2 ^ 32) (hb : b < 2 ^ 32) : nI a = nI b ↔ a = b := by
  constructor
  · intro h
    have h2 := congrArg (fun x : Int32 => x.toBitVec.toNat) h
    simp only [pk_tn ha, pk_tn hb] at h2
    exact h2
  · intro h; rw [h]
/-- a long below 0 is one whose first bit is set -/
theorem l_neg {n : Nat} (h : n < 2 ^ 64) : (0 : Int64) ≤ lN n ↔ n < 9223372036854775808 := by
  rw [Int64.le_iff_toInt_le]
  show (0 : Int) ≤ (lN n).toBitVec.toInt ↔ _
  rw [BitVec.toInt_eq_toNat_cond, wb_tn h]
  split <;> omega
/-! the two formats -/
def wN (a0 : Int32) : Nat := if a0 = 0 then 23 else 52
def hN (a0 : Int32) : Nat := if a0 = 0 then 31 else 63
def qN (a0 : Int32) : Int := if a0 = 0 then -149 else -1074
def fF (a0 : Int32) : Jvm.FP.Core.Fmt := if a0 = 0 then Jvm.FP.Core.b32 else Jvm.FP.Core.b64
theorem wh_b (a0 : Int32) : wN a0 < 64 ∧ hN a0 < 64 ∧ wN a0 < hN a0 ∧ 23 ≤ wN a0 ∧ wN a0 ≤ 52 ∧ hN a0 - wN a0 ≤ 11 := by
  unfold wN hN; split <;> decide
theorem r_width (a0 : Int32) : jX4_width a0 = nI (wN a0) := by unfold jX4_width wN; split <;> rfl
theorem r_least (a0 : Int32) : jX4_leastExponent a0 = iI (qN a0) := by unfold jX4_leastExponent qN; split <;> decide
theorem r_endless (a0 : Int32) : jX4_endless a0 = lN ((2 ^ (hN a0 - wN a0) - 1) * 2 ^ wN a0) := by
  unfold jX4_endless hN wN; split <;> decide
theorem r_size (a0 : Int32) {n : Nat} (hn : n < 2 ^ 64) : jX4_sizeOf a0 (lN n) = lN (n % 2 ^ hN a0) := by
  unfold jX4_sizeOf jX4_sizeOf_y1 hN
  split
  · exact wb_mask (k := 31) hn (by decide)
  · exact wb_mask (k := 63) hn (by decide)
theorem p_hb (a0 : Int32) : 2 ^ hN a0 ≤ 9223372036854775808 := by
  unfold hN; split <;> decide
theorem p_wb (a0 : Int32) : 2 ^ wN a0 ≤ 4503599627370496 := by
  unfold wN; split <;> decide
theorem p_one (w : Nat) (hw : w < 64) : (1 : Int64) <<< ((nI w).toInt64 &&& 63) = lN (2 ^ w) := by
  have := wb_shl 1 hw
  rw [Nat.one_mul] at this
  exact this
theorem p_ones (w : Nat) : lN (2 ^ w) - (1 : Int64) = lN (2 ^ w - 1) := by
  have := lN_sub (a := 2 ^ w) (b := 1) (Nat.one_le_two_pow)
  exact this
def mN (a0 : Int32) (n : Nat) : Nat := if n % 2 ^ hN a0 < 2 ^ wN a0 then n % 2 ^ wN a0 else n % 2 ^ wN a0 + 2 ^ wN a0
def eN (a0 : Int32) (n : Nat) : Int := qN a0 + ((n % 2 ^ hN a0 / 2 ^ wN a0 - 1 : Nat) : Int)
theorem r_mant (a0 : Int32) {n : Nat} (hn : n < 2 ^ 64) : jX4_mantissa a0 (lN n) = lN (mN a0 n) := by
  obtain ⟨h1, h2, h3, h4, h5, -⟩ := wh_b a0
  have b1 := p_hb a0
  have b2 := p_wb a0
  have b3 := Nat.mod_lt n (Nat.two_pow_pos (hN a0))
  have b4 := Nat.mod_lt n (Nat.two_pow_pos (wN a0))
  unfold jX4_mantissa jX4_mantissa_y1 jX4_mantissa_y2 mN
  rw [r_width, r_size a0 hn, p_one _ h1, p_ones, wb_mask hn h1]
  by_cases h : n % 2 ^ hN a0 < 2 ^ wN a0
  · rw [if_neg (by rw [l_le (by omega) (by omega)]; omega), if_pos h]
  · rw [if_pos (by rw [l_le (by omega) (by omega)]; omega), if_neg h, wb_or (by omega) (by omega)]
    congr 1
    have := Nat.two_pow_add_eq_or_of_lt b4 1
    rw [Nat.mul_one] at this
    rw [Nat.or_comm, ← this, Nat.add_comm]
theorem mN_lt (a0 : Int32) (n : Nat) : mN a0 n < 2 ^ (wN a0 + 1) := by
  have b4 := Nat.mod_lt n (Nat.two_pow_pos (wN a0))
  unfold mN
  rw [Nat.pow_succ]
  split <;> omega
theorem p_field (a0 : Int32) (n : Nat) : n % 2 ^ hN a0 / 2 ^ wN a0 < 2048 := by
  obtain ⟨h1, h2, h3, h4, h5, h6⟩ := wh_b a0
  have b3 := Nat.mod_lt n (Nat.two_pow_pos (hN a0))
  rw [Nat.div_lt_iff_lt_mul (Nat.two_pow_pos _)]
  refine Nat.lt_of_lt_of_le b3 ?_
  rw [show (2048 : Nat) = 2 ^ 11 by decide, ← Nat.pow_add]
  exact Nat.pow_le_pow_right (by decide) (by omega)
theorem q_b (a0 : Int32) : -1074 ≤ qN a0 ∧ qN a0 ≤ -149 := by unfold qN; split <;> decide
theorem eN_b (a0 : Int32) (n : Nat) : -1074 ≤ eN a0 n ∧ eN a0 n < 2048 := by
  have := p_field a0 n
  have := q_b a0
  unfold eN
  omega
theorem r_exp (a0 : Int32) {n : Nat} (hn : n < 2 ^ 64) : jX4_exponent a0 (lN n) = iI (eN a0 n) := by
  obtain ⟨h1, h2, h3, h4, h5, -⟩ := wh_b a0
  have b1 := p_hb a0
  have b3 := Nat.mod_lt n (Nat.two_pow_pos (hN a0))
  have b5 := p_field a0 n
  unfold jX4_exponent jX4_exponent_y1 eN
  rw [r_size a0 hn, r_width, wb_shr (by omega) h1, lN_i, r_least]
  generalize n % 2 ^ hN a0 / 2 ^ wN a0 = k at b5
  have e1 : nI k - (1 : Int32) = iI ((k : Int) - 1) := by rw [iI_n]; exact iI_sub _ 1
  rw [e1]
  have e0 : (0 : Int32) = iI 0 := by decide
  rw [e0]
  by_cases h : 1 < k
  · rw [if_pos ((iI_lt (by omega) (by omega) (by omega) (by omega)).mpr (by omega)), iI_add]
    congr 1; omega
  · rw [if_neg (fun q => by have := (iI_lt (by omega) (by omega) (by omega) (by omega)).mp q; omega), iI_add]
    congr 1; omega
end
section
/-! the number of leading zeros -/
theorem nz_cu : ∀ k, k < 32 → ((nI k).toUInt32 &&& Int32.toUInt32 31) = UInt32.ofNat k := by decide +kernel
theorem nz_sh {n k : Nat} (hn : n < 2 ^ 32) (hk : k < 32) : ((nI n).toUInt32 >>> ((nI k).toUInt32 &&& Int32.toUInt32 31)).toInt32 = nI (n / 2 ^ k) := by
  rw [nz_cu k hk]
  apply Int32.toBitVec_inj.mp
  apply BitVec.eq_of_toNat_eq
  show ((nI n).toUInt32 >>> UInt32.ofNat k).toNat = (BitVec.ofNat 32 _).toNat
  have h1 : (UInt32.ofNat k).toNat = k := by
    show (BitVec.ofNat 32 k).toNat = k
    rw [BitVec.toNat_ofNat, Nat.mod_eq_of_lt (by omega)]
  have h2 : (nI n).toUInt32.toNat = n := pk_tn hn
  rw [UInt32.toNat_shiftRight, h1, h2, Nat.mod_eq_of_lt hk, Nat.shiftRight_eq_div_pow, BitVec.toNat_ofNat, Nat.mod_eq_of_lt (Nat.lt_of_le_of_lt (Nat.div_le_self _ _) hn)]
theorem nz_dl {k c : Nat} (h : k < 2147483648) : k / c < 2147483648 := Nat.lt_of_le_of_lt (Nat.div_le_self _ _) h
theorem nz_1 {n : Nat} (hn : n < 2147483648) : ((nI n).toUInt32 >>> ((1 : Int32).toUInt32 &&& Int32.toUInt32 31)).toInt32 = nI (n / 2) := nz_sh (k := 1) (by omega) (by decide)
theorem nz_2 {n : Nat} (hn : n < 2147483648) : ((nI n).toUInt32 >>> ((2 : Int32).toUInt32 &&& Int32.toUInt32 31)).toInt32 = nI (n / 4) := nz_sh (k := 2) (by omega) (by decide)
theorem nz_4 {n : Nat} (hn : n < 2147483648) : ((nI n).toUInt32 >>> ((4 : Int32).toUInt32 &&& Int32.toUInt32 31)).toInt32 = nI (n / 16) := nz_sh (k := 4) (by omega) (by decide)
theorem nz_8 {n : Nat} (hn : n < 2147483648) : ((nI n).toUInt32 >>> ((8 : Int32).toUInt32 &&& Int32.toUInt32 31)).toInt32 = nI (n / 256) := nz_sh (k := 8) (by omega) (by decide)
theorem nz_16 {n : Nat} (hn : n < 2147483648) : ((nI n).toUInt32 >>> ((16 : Int32).toUInt32 &&& Int32.toUInt32 31)).toInt32 = nI (n / 65536) := nz_sh (k := 16) (by omega) (by decide)
theorem nz_l4 {n : Nat} (hn : n < 2147483648) : (nI n < (4 : Int32)) ↔ n < 4 := nI_ltI (b := 4) hn (by decide)
theorem nz_l16 {n : Nat} (hn : n < 2147483648) : (nI n < (16 : Int32)) ↔ n < 16 := nI_ltI (b := 16) hn (by decide)
theorem nz_l256 {n : Nat} (hn : n < 2147483648) : (nI n < (256 : Int32)) ↔ n < 256 := nI_ltI (b := 256) hn (by decide)
theorem nz_l65536 {n : Nat} (hn : n < 2147483648) : (nI n < (65536 : Int32)) ↔ n < 65536 := nI_ltI (b := 65536) hn (by decide)
theorem nz_log {k s j : Nat} (hj : j < 2) (h1 : 2 ^ (s + j) ≤ k) (h2 : k < 2 ^ (s + j + 1)) : k.log2 = s + j := by
  have hk : k ≠ 0 := by have := Nat.two_pow_pos (s + j); omega
  exact (Nat.log2_eq_iff hk).mpr ⟨h1, h2⟩
theorem nz_fin {k : Nat} (s d : Nat) (b : Int32) (j : Nat) (hd : d = 2 ^ s) (hb : b = nI (31 - s)) (hs : s ≤ 30) (h1 : d ≤ k) (h2 : k < 4 * d) (hj : j = k / (2 * d)) : b - nI j = nI (31 - k.log2) := by
  subst hd hb hj
  have hp := Nat.two_pow_pos s
  rcases Nat.lt_or_ge k (2 * 2 ^ s) with q | q
  · have hl : k.log2 = s := nz_log (s := s) (j := 0) (by decide) (by simpa using h1) (by rw [Nat.add_zero, Nat.pow_succ]; omega)
    rw [hl, Nat.div_eq_of_lt q]
    exact pk_sub (Nat.zero_le _)
  · have hl : k.log2 = s + 1 := nz_log (s := s) (j := 1) (by decide) (by rw [Nat.pow_succ]; omega) (by rw [Nat.pow_succ, Nat.pow_succ]; omega)
    have hd : k / (2 * 2 ^ s) = 1 := by
      rw [Nat.div_eq_iff (by omega)]
      omega
    rw [hl, hd, pk_sub (show 1 ≤ 31 - s by omega)]
    congr 1
set_option maxRecDepth 100000 in
set_option maxHeartbeats 4000000 in
theorem nz_pos {k : Nat} (h0 : 0 < k) (hk : k < 2147483648) : jJ6_numberOfLeadingZeros_0f7a4 (nI k) = nI (31 - k.log2) := by
  have hp : (0 : Int32) < nI k := nI_lt (a := 0) h0 (by omega)
  have d_65536 : k / 65536 < 2147483648 := nz_dl hk
  have d_256 : k / 256 < 2147483648 := nz_dl hk
  have d_16 : k / 16 < 2147483648 := nz_dl hk
  have d_4 : k / 4 < 2147483648 := nz_dl hk
  have d_65536_256 : k / 65536 / 256 < 2147483648 := nz_dl d_65536
  have d_65536_16 : k / 65536 / 16 < 2147483648 := nz_dl d_65536
  have d_65536_4 : k / 65536 / 4 < 2147483648 := nz_dl d_65536
  have d_256_16 : k / 256 / 16 < 2147483648 := nz_dl d_256
  have d_256_4 : k / 256 / 4 < 2147483648 := nz_dl d_256
  have d_16_4 : k / 16 / 4 < 2147483648 := nz_dl d_16
  have d_65536_256_16 : k / 65536 / 256 / 16 < 2147483648 := nz_dl d_65536_256
  have d_65536_256_4 : k / 65536 / 256 / 4 < 2147483648 := nz_dl d_65536_256
  have d_65536_16_4 : k / 65536 / 16 / 4 < 2147483648 := nz_dl d_65536_16
  have d_256_16_4 : k / 256 / 16 / 4 < 2147483648 := nz_dl d_256_16
  have d_65536_256_16_4 : k / 65536 / 256 / 16 / 4 < 2147483648 := nz_dl d_65536_256_16
  simp only [jJ6_numberOfLeadingZeros_0f7a4, jJ6_numberOfLeadingZeros_0f7a4_y6, jJ6_numberOfLeadingZeros_0f7a4_y7, jJ6_numberOfLeadingZeros_0f7a4_y9, jJ6_numberOfLeadingZeros_0f7a4_y10, jJ6_numberOfLeadingZeros_0f7a4_y13, jJ6_numberOfLeadingZeros_0f7a4_y14, jJ6_numberOfLeadingZeros_0f7a4_y16, jJ6_numberOfLeadingZeros_0f7a4_y17, jJ6_numberOfLeadingZeros_0f7a4_y21, jJ6_numberOfLeadingZeros_0f7a4_y22, jJ6_numberOfLeadingZeros_0f7a4_y24, jJ6_numberOfLeadingZeros_0f7a4_y25, jJ6_numberOfLeadingZeros_0f7a4_y28, jJ6_numberOfLeadingZeros_0f7a4_y29, jJ6_numberOfLeadingZeros_0f7a4_y31, nz_1, nz_2, nz_4, nz_8, nz_16, nz_l4, nz_l16, nz_l256, nz_l65536, hk, hp, d_65536, d_256, d_16, d_4, d_65536_256, d_65536_16, d_65536_4, d_256_16, d_256_4, d_16_4, d_65536_256_16, d_65536_256_4, d_65536_16_4, d_256_16_4, d_65536_256_16_4, if_true]
  split
  · split
    · split
      · split
        · exact nz_fin (k := k) 0 1 _ _ rfl rfl (by decide) (by omega) (by omega) (by omega)
        · exact nz_fin (k := k) 2 4 _ _ rfl rfl (by decide) (by omega) (by omega) (by omega)
      · split
        · exact nz_fin (k := k) 4 16 _ _ rfl rfl (by decide) (by omega) (by omega) (by omega)
        · exact nz_fin (k := k) 6 64 _ _ rfl rfl (by decide) (by omega) (by omega) (by omega)
    · split
      · split
        · exact nz_fin (k := k) 8 256 _ _ rfl rfl (by decide) (by omega) (by omega) (by omega)
        · exact nz_fin (k := k) 10 1024 _ _ rfl rfl (by decide) (by omega) (by omega) (by omega)
      · split
        · exact nz_fin (k := k) 12 4096 _ _ rfl rfl (by decide) (by omega) (by omega) (by omega)
        · exact nz_fin (k := k) 14 16384 _ _ rfl rfl (by decide) (by omega) (by omega) (by omega)
  · split
    · split
      · split
        · exact nz_fin (k := k) 16 65536 _ _ rfl rfl (by decide) (by omega) (by omega) (by omega)
        · exact nz_fin (k := k) 18 262144 _ _ rfl rfl (by decide) (by omega) (by omega) (by omega)
      · split
        · exact nz_fin (k := k) 20 1048576 _ _ rfl rfl (by decide) (by omega) (by omega) (by omega)
        · exact nz_fin (k := k) 22 4194304 _ _ rfl rfl (by decide) (by omega) (by omega) (by omega)
    · split
      · split
        · exact nz_fin (k := k) 24 16777216 _ _ rfl rfl (by decide) (by omega) (by omega) (by omega)
        · exact nz_fin (k := k) 26 67108864 _ _ rfl rfl (by decide) (by omega) (by omega) (by omega)
      · split
        · exact nz_fin (k := k) 28 268435456 _ _ rfl rfl (by decide) (by omega) (by omega) (by omega)
        · exact nz_fin (k := k) 30 1073741824 _ _ rfl rfl (by decide) (by omega) (by omega) (by omega)
theorem nz_int {k : Nat} (hk : k < 4294967296) : jJ6_numberOfLeadingZeros_0f7a4 (nI k) = nI (if k = 0 then 32 else 31 - k.log2) := by
  by_cases h0 : k = 0
  · subst h0; decide +kernel
  · rw [if_neg h0]
    by_cases h1 : k < 2147483648
    · exact nz_pos (by omega) h1
    · have hl : k.log2 = 31 := (Nat.log2_eq_iff h0).mpr ⟨by omega, by omega⟩
      have hn : ¬ (0 : Int32) < nI k := by
        rw [Int32.lt_iff_toInt_lt]
        show ¬ (0 : Int) < (nI k).toBitVec.toInt
        rw [BitVec.toInt_eq_toNat_cond, pk_tn (by omega)]
        split <;> omega
      have hz : ¬ nI k = 0 := fun q => h0 ((n_eq (b := 0) (by omega) (by decide)).mp q)
      unfold jJ6_numberOfLeadingZeros_0f7a4
      rw [if_neg hn, hl]
      first | rw [if_neg hz] | rw [if_pos hz]
      rfl
theorem nz_long {W : Nat} (hW : W < 2 ^ 64) : jJ13_numberOfLeadingZeros_95d88 (lN W) = nI (if W = 0 then 64 else 63 - W.log2) := by
  unfold jJ13_numberOfLeadingZeros_95d88 jJ13_numberOfLeadingZeros_95d88_y1
  have e1 : ((lN W).toUInt64 >>> ((32 : Int32).toInt64.toUInt64 &&& Int64.toUInt64 63)).toInt64 = lN (W / 2 ^ 32) := wb_shr (k := 32) hW (by decide)
  rw [e1, lN_i, lN_i]
  have hd : W / 2 ^ 32 < 4294967296 := by omega
  by_cases h : W / 2 ^ 32 = 0
  · have hW2 : W < 4294967296 := by omega
    rw [if_pos (by rw [h]; rfl), nz_int hW2]
    have e32 : (32 : Int32) = nI 32 := by decide
    rw [e32, nI_add]
    congr 1
    by_cases h0 : W = 0
    · rw [if_pos h0, if_pos h0]
    · rw [if_neg h0, if_neg h0]
      have : W.log2 < 32 := (Nat.log2_lt h0).mpr hW2
      omega
  · rw [if_neg (show ¬ nI (W / 2 ^ 32) = 0 from fun q => h ((n_eq (b := 0) (by omega) (by decide)).mp q)), nz_int hd, if_neg h, if_neg (by omega)]
    congr 1
    have h0 : W ≠ 0 := by omega
    have hV := Nat.log2_self_le h
    have hV2 := Nat.lt_log2_self (n := W / 2 ^ 32)
    have hl : W.log2 = 32 + (W / 2 ^ 32).log2 := by
      refine (Nat.log2_eq_iff h0).mpr ⟨?_, ?_⟩
      · rw [Nat.pow_add]
        have := Nat.mul_le_mul_left (2 ^ 32) hV
        omega
      · rw [Nat.add_assoc, Nat.pow_add]
        have := Nat.mul_le_mul_left (2 ^ 32) (Nat.succ_le_of_lt hV2)
        omega
    omega
def bN (W : Nat) : Nat := if W = 0 then 0 else W.log2 + 1
theorem bN_64 {W : Nat} (hW : W < 2 ^ 64) : bN W ≤ 64 := by
  unfold bN
  split
  · omega
  · rename_i h
    have : W.log2 < 64 := (Nat.log2_lt h).mpr hW
    omega
theorem r_len {W : Nat} (hW : W < 2 ^ 64) : jX4_lengthOf (lN W) = nI (bN W) := by
  have hb := bN_64 hW
  unfold jX4_lengthOf
  rw [nz_long hW]
  have e64 : (64 : Int32) = nI 64 := by decide
  rw [e64, pk_sub (by split <;> omega)]
  congr 1
  unfold bN at hb ⊢
  split
  · rfl
  · rename_i h
    rw [if_neg h] at hb
    omega
end
section
/-! what the walks of quotient and leftOver ask: no divisor is 0, the loop ends -/
theorem mN_53 (a0 : Int32) (n : Nat) : mN a0 n < 9007199254740992 := by
  refine Nat.lt_of_lt_of_le (mN_lt a0 n) ?_
  obtain ⟨-, -, -, -, h5, -⟩ := wh_b a0
  exact Nat.le_trans (Nat.pow_le_pow_right (by decide) (show wN a0 + 1 ≤ 53 by omega)) (by decide)
theorem bN_le {m k : Nat} (h : m < 2 ^ k) : bN m ≤ k := by
  unfold bN
  split
  · omega
  · rename_i q
    have : m.log2 < k := (Nat.log2_lt q).mpr h
    omega
theorem bN_spec {m : Nat} (h : m ≠ 0) : 2 ^ (bN m - 1) ≤ m ∧ m < 2 ^ bN m ∧ 1 ≤ bN m := by
  unfold bN
  rw [if_neg h]
  exact ⟨Nat.log2_self_le h, Nat.lt_log2_self, by omega⟩
/-- a mantissa brought to 53 binary digits -/
def sN (m : Nat) : Nat := m * 2 ^ (53 - bN m)
theorem sN_lt {m : Nat} (h : m ≠ 0) (hm : m < 9007199254740992) : sN m < 9007199254740992 ∧ 4503599627370496 ≤ sN m := by
  have hb : bN m ≤ 53 := bN_le (k := 53) (by omega)
  obtain ⟨h1, h2, h3⟩ := bN_spec h
  unfold sN
  constructor
  · have := Nat.mul_lt_mul_of_pos_right h2 (Nat.two_pow_pos (53 - bN m))
    rw [← Nat.pow_add, show bN m + (53 - bN m) = 53 by omega] at this
    omega
  · have := Nat.mul_le_mul_right (2 ^ (53 - bN m)) h1
    rw [← Nat.pow_add, show bN m - 1 + (53 - bN m) = 52 by omega] at this
    omega
theorem p_sh53 {m : Nat} (hm : m < 9007199254740992) (h : m ≠ 0) : lN m <<< (((53 : Int32) - jX4_lengthOf (lN m)).toInt64 &&& 63) = lN (sN m) := by
  have hb : bN m ≤ 53 := bN_le (k := 53) (by omega)
  obtain ⟨-, -, h3⟩ := bN_spec h
  rw [r_len (by omega), show (53 : Int32) = nI 53 by decide, pk_sub hb, wb_shl m (k := 53 - bN m) (by omega)]
  rfl
theorem p_quot_ne (a0 : Int32) (x : Int64) (h : ¬ jX4_mantissa a0 x = 0) : ¬ (jX4_mantissa a0 x <<< (((53 : Int32) - jX4_lengthOf (jX4_mantissa a0 x)).toInt64 &&& 63)) = 0 := by
  obtain ⟨n, hn, rfl⟩ := wb_of x
  have hm := mN_53 a0 n
  rw [r_mant a0 hn] at h ⊢
  have h0 : mN a0 n ≠ 0 := fun q => h (by rw [q]; rfl)
  rw [p_sh53 hm h0]
  have := sN_lt h0 hm
  intro q
  have := (l_eq (b := 0) (by omega) (by decide)).mp q
  omega
theorem p_apart (a0 : Int32) (x y : Int64) : (jX4_exponent a0 x - jX4_exponent a0 y).toInt ≤ (4096 : Nat) := by
  obtain ⟨n, hn, rfl⟩ := wb_of x
  obtain ⟨k, hk, rfl⟩ := wb_of y
  have h1 := eN_b a0 n
  have h2 := eN_b a0 k
  rw [r_exp a0 hn, r_exp a0 hk, iI_sub, iI_toInt (by omega) (by omega)]
  omega
theorem p_step (x : Int64) : 10 ≤ (if (10 : Int32) < (jJ13_numberOfLeadingZeros_95d88 x - (1 : Int32)) then (jJ13_numberOfLeadingZeros_95d88 x - (1 : Int32)) else (10 : Int32)).toInt ∧ (if (10 : Int32) < (jJ13_numberOfLeadingZeros_95d88 x - (1 : Int32)) then (jJ13_numberOfLeadingZeros_95d88 x - (1 : Int32)) else (10 : Int32)).toInt ≤ 64 := by
  obtain ⟨n, hn, rfl⟩ := wb_of x
  rw [nz_long hn]
  have hb : (if n = 0 then 64 else 63 - n.log2) ≤ 64 := by split <;> omega
  generalize (if n = 0 then 64 else 63 - n.log2) = k at hb ⊢
  have e1 : nI k - (1 : Int32) = iI ((k : Int) - 1) := by rw [iI_n]; exact iI_sub _ 1
  rw [e1, show (10 : Int32) = iI 10 by decide]
  split
  · rename_i h
    rw [iI_lt (by omega) (by omega) (by omega) (by omega)] at h
    rw [iI_toInt (by omega) (by omega)]
    omega
  · rw [iI_toInt (by omega) (by omega)]
    omega
theorem p_dec {a b : Int32} {n : Nat} (h : ¬ a ≤ 0) (hn : a.toInt ≤ ((n + 1 : Nat) : Int)) (h1 : 10 ≤ b.toInt) (h2 : b.toInt ≤ 64) : (a - b).toInt ≤ (n : Int) := by
  rw [Int32.le_iff_toInt_le] at h
  have h0 : (0 : Int32).toInt = 0 := rfl
  rw [h0] at h
  have e1 : a = iI a.toInt := (Int32.ofInt_toInt a).symm
  have e2 : b = iI b.toInt := (Int32.ofInt_toInt b).symm
  have hu := Int32.toInt_lt a
  generalize a.toInt = u at *
  generalize b.toInt = v at *
  rw [e1, e2, iI_sub, iI_toInt (by omega) (by omega)]
  omega
end
section
def jX4_quotient_y35 (a0 : Int32) (a1 : Int64) (a3 : Int64) (y1 : Int32) (y3 : Int32) (y5 : Int32) (y7 : Int64) (y8 : Int64) (y11 : Int32) (y12 : Int32) (y13 : Int64) (y14 : Int64) (y15 : Int64) (y16 : Int64) (y17 : Int64) (y18 : Int64) (y19 : Int64) (y20 : Int64) (y21 : Int64) (y22 : Int64) (y23 : Int64) (y24 : Int64) (y25 : Int64) (y26 : Int64) (y27 : Int64) (y28 : Int64) (y29 : Int64) (y30 : Int64) (y31 : Int64) (y32 : Int64) (y33 : Int64) (y34 : Int64) (y35 : Int32) : Int64 := (jX4_nearest a0 y5 (jX4_withMore y33 y34) (y35 - (60 : Int32)))
def jX4_quotient_y34 (a0 : Int32) (a1 : Int64) (a3 : Int64) (y1 : Int32) (y3 : Int32) (y5 : Int32) (y7 : Int64) (y8 : Int64) (y11 : Int32) (y12 : Int32) (y13 : Int64) (y14 : Int64) (y15 : Int64) (y16 : Int64) (y17 : Int64) (y18 : Int64) (y19 : Int64) (y20 : Int64) (y21 : Int64) (y22 : Int64) (y23 : Int64) (y24 : Int64) (y25 : Int64) (y26 : Int64) (y27 : Int64) (y28 : Int64) (y29 : Int64) (y30 : Int64) (y31 : Int64) (y32 : Int64) (y33 : Int64) (y34 : Int64) : Int64 := (jX4_quotient_y35 a0 a1 a3 y1 y3 y5 y7 y8 y11 y12 y13 y14 y15 y16 y17 y18 y19 y20 y21 y22 y23 y24 y25 y26 y27 y28 y29 y30 y31 y32 y33 y34 ((((jX4_exponent a0 a1) - y11) - (jX4_exponent a0 a3)) + y12))
def jX4_quotient_y33 (a0 : Int32) (a1 : Int64) (a3 : Int64) (y1 : Int32) (y3 : Int32) (y5 : Int32) (y7 : Int64) (y8 : Int64) (y11 : Int32) (y12 : Int32) (y13 : Int64) (y14 : Int64) (y15 : Int64) (y16 : Int64) (y17 : Int64) (y18 : Int64) (y19 : Int64) (y20 : Int64) (y21 : Int64) (y22 : Int64) (y23 : Int64) (y24 : Int64) (y25 : Int64) (y26 : Int64) (y27 : Int64) (y28 : Int64) (y29 : Int64) (y30 : Int64) (y31 : Int64) (y32 : Int64) (y33 : Int64) : Int64 := (jX4_quotient_y34 a0 a1 a3 y1 y3 y5 y7 y8 y11 y12 y13 y14 y15 y16 y17 y18 y19 y20 y21 y22 y23 y24 y25 y26 y27 y28 y29 y30 y31 y32 y33 (y32 - y32 / y14 * y14))
def jX4_quotient_y32 (a0 : Int32) (a1 : Int64) (a3 : Int64) (y1 : Int32) (y3 : Int32) (y5 : Int32) (y7 : Int64) (y8 : Int64) (y11 : Int32) (y12 : Int32) (y13 : Int64) (y14 : Int64) (y15 : Int64) (y16 : Int64) (y17 : Int64) (y18 : Int64) (y19 : Int64) (y20 : Int64) (y21 : Int64) (y22 : Int64) (y23 : Int64) (y24 : Int64) (y25 : Int64) (y26 : Int64) (y27 : Int64) (y28 : Int64) (y29 : Int64) (y30 : Int64) (y31 : Int64) (y32 : Int64) : Int64 := (jX4_quotient_y33 a0 a1 a3 y1 y3 y5 y7 y8 y11 y12 y13 y14 y15 y16 y17 y18 y19 y20 y21 y22 y23 y24 y25 y26 y27 y28 y29 y30 y31 y32 ((y30 <<< ((10 : Int32).toInt64 &&& 63)) ||| (y32 / y14)))
def jX4_quotient_y31 (a0 : Int32) (a1 : Int64) (a3 : Int64) (y1 : Int32) (y3 : Int32) (y5 : Int32) (y7 : Int64) (y8 : Int64) (y11 : Int32) (y12 : Int32) (y13 : Int64) (y14 : Int64) (y15 : Int64) (y16 : Int64) (y17 : Int64) (y18 : Int64) (y19 : Int64) (y20 : Int64) (y21 : Int64) (y22 : Int64) (y23 : Int64) (y24 : Int64) (y25 : Int64) (y26 : Int64) (y27 : Int64) (y28 : Int64) (y29 : Int64) (y30 : Int64) (y31 : Int64) : Int64 := (jX4_quotient_y32 a0 a1 a3 y1 y3 y5 y7 y8 y11 y12 y13 y14 y15 y16 y17 y18 y19 y20 y21 y22 y23 y24 y25 y26 y27 y28 y29 y30 y31 (y31 <<< ((10 : Int32).toInt64 &&& 63)))
def jX4_quotient_y30 (a0 : Int32) (a1 : Int64) (a3 : Int64) (y1 : Int32) (y3 : Int32) (y5 : Int32) (y7 : Int64) (y8 : Int64) (y11 : Int32) (y12 : Int32) (y13 : Int64) (y14 : Int64) (y15 : Int64) (y16 : Int64) (y17 : Int64) (y18 : Int64) (y19 : Int64) (y20 : Int64) (y21 : Int64) (y22 : Int64) (y23 : Int64) (y24 : Int64) (y25 : Int64) (y26 : Int64) (y27 : Int64) (y28 : Int64) (y29 : Int64) (y30 : Int64) : Int64 := (jX4_quotient_y31 a0 a1 a3 y1 y3 y5 y7 y8 y11 y12 y13 y14 y15 y16 y17 y18 y19 y20 y21 y22 y23 y24 y25 y26 y27 y28 y29 y30 (y29 - y29 / y14 * y14))
def jX4_quotient_y29 (a0 : Int32) (a1 : Int64) (a3 : Int64) (y1 : Int32) (y3 : Int32) (y5 : Int32) (y7 : Int64) (y8 : Int64) (y11 : Int32) (y12 : Int32) (y13 : Int64) (y14 : Int64) (y15 : Int64) (y16 : Int64) (y17 : Int64) (y18 : Int64) (y19 : Int64) (y20 : Int64) (y21 : Int64) (y22 : Int64) (y23 : Int64) (y24 : Int64) (y25 : Int64) (y26 : Int64) (y27 : Int64) (y28 : Int64) (y29 : Int64) : Int64 := (jX4_quotient_y30 a0 a1 a3 y1 y3 y5 y7 y8 y11 y12 y13 y14 y15 y16 y17 y18 y19 y20 y21 y22 y23 y24 y25 y26 y27 y28 y29 ((y27 <<< ((10 : Int32).toInt64 &&& 63)) ||| (y29 / y14)))
def jX4_quotient_y28 (a0 : Int32) (a1 : Int64) (a3 : Int64) (y1 : Int32) (y3 : Int32) (y5 : Int32) (y7 : Int64) (y8 : Int64) (y11 : Int32) (y12 : Int32) (y13 : Int64) (y14 : Int64) (y15 : Int64) (y16 : Int64) (y17 : Int64) (y18 : Int64) (y19 : Int64) (y20 : Int64) (y21 : Int64) (y22 : Int64) (y23 : Int64) (y24 : Int64) (y25 : Int64) (y26 : Int64) (y27 : Int64) (y28 : Int64) : Int64 := (jX4_quotient_y29 a0 a1 a3 y1 y3 y5 y7 y8 y11 y12 y13 y14 y15 y16 y17 y18 y19 y20 y21 y22 y23 y24 y25 y26 y27 y28 (y28 <<< ((10 : Int32).toInt64 &&& 63)))
def jX4_quotient_y27 (a0 : Int32) (a1 : Int64) (a3 : Int64) (y1 : Int32) (y3 : Int32) (y5 : Int32) (y7 : Int64) (y8 : Int64) (y11 : Int32) (y12 : Int32) (y13 : Int64) (y14 : Int64) (y15 : Int64) (y16 : Int64) (y17 : Int64) (y18 : Int64) (y19 : Int64) (y20 : Int64) (y21 : Int64) (y22 : Int64) (y23 : Int64) (y24 : Int64) (y25 : Int64) (y26 : Int64) (y27 : Int64) : Int64 := (jX4_quotient_y28 a0 a1 a3 y1 y3 y5 y7 y8 y11 y12 y13 y14 y15 y16 y17 y18 y19 y20 y21 y22 y23 y24 y25 y26 y27 (y26 - y26 / y14 * y14))
def jX4_quotient_y26 (a0 : Int32) (a1 : Int64) (a3 : Int64) (y1 : Int32) (y3 : Int32) (y5 : Int32) (y7 : Int64) (y8 : Int64) (y11 : Int32) (y12 : Int32) (y13 : Int64) (y14 : Int64) (y15 : Int64) (y16 : Int64) (y17 : Int64) (y18 : Int64) (y19 : Int64) (y20 : Int64) (y21 : Int64) (y22 : Int64) (y23 : Int64) (y24 : Int64) (y25 : Int64) (y26 : Int64) : Int64 := (jX4_quotient_y27 a0 a1 a3 y1 y3 y5 y7 y8 y11 y12 y13 y14 y15 y16 y17 y18 y19 y20 y21 y22 y23 y24 y25 y26 ((y24 <<< ((10 : Int32).toInt64 &&& 63)) ||| (y26 / y14)))
def jX4_quotient_y25 (a0 : Int32) (a1 : Int64) (a3 : Int64) (y1 : Int32) (y3 : Int32) (y5 : Int32) (y7 : Int64) (y8 : Int64) (y11 : Int32) (y12 : Int32) (y13 : Int64) (y14 : Int64) (y15 : Int64) (y16 : Int64) (y17 : Int64) (y18 : Int64) (y19 : Int64) (y20 : Int64) (y21 : Int64) (y22 : Int64) (y23 : Int64) (y24 : Int64) (y25 : Int64) : Int64 := (jX4_quotient_y26 a0 a1 a3 y1 y3 y5 y7 y8 y11 y12 y13 y14 y15 y16 y17 y18 y19 y20 y21 y22 y23 y24 y25 (y25 <<< ((10 : Int32).toInt64 &&& 63)))
def jX4_quotient_y24 (a0 : Int32) (a1 : Int64) (a3 : Int64) (y1 : Int32) (y3 : Int32) (y5 : Int32) (y7 : Int64) (y8 : Int64) (y11 : Int32) (y12 : Int32) (y13 : Int64) (y14 : Int64) (y15 : Int64) (y16 : Int64) (y17 : Int64) (y18 : Int64) (y19 : Int64) (y20 : Int64) (y21 : Int64) (y22 : Int64) (y23 : Int64) (y24 : Int64) : Int64 := (jX4_quotient_y25 a0 a1 a3 y1 y3 y5 y7 y8 y11 y12 y13 y14 y15 y16 y17 y18 y19 y20 y21 y22 y23 y24 (y23 - y23 / y14 * y14))
def jX4_quotient_y23 (a0 : Int32) (a1 : Int64) (a3 : Int64) (y1 : Int32) (y3 : Int32) (y5 : Int32) (y7 : Int64) (y8 : Int64) (y11 : Int32) (y12 : Int32) (y13 : Int64) (y14 : Int64) (y15 : Int64) (y16 : Int64) (y17 : Int64) (y18 : Int64) (y19 : Int64) (y20 : Int64) (y21 : Int64) (y22 : Int64) (y23 : Int64) : Int64 := (jX4_quotient_y24 a0 a1 a3 y1 y3 y5 y7 y8 y11 y12 y13 y14 y15 y16 y17 y18 y19 y20 y21 y22 y23 ((y21 <<< ((10 : Int32).toInt64 &&& 63)) ||| (y23 / y14)))
def jX4_quotient_y22 (a0 : Int32) (a1 : Int64) (a3 : Int64) (y1 : Int32) (y3 : Int32) (y5 : Int32) (y7 : Int64) (y8 : Int64) (y11 : Int32) (y12 : Int32) (y13 : Int64) (y14 : Int64) (y15 : Int64) (y16 : Int64) (y17 : Int64) (y18 : Int64) (y19 : Int64) (y20 : Int64) (y21 : Int64) (y22 : Int64) : Int64 := (jX4_quotient_y23 a0 a1 a3 y1 y3 y5 y7 y8 y11 y12 y13 y14 y15 y16 y17 y18 y19 y20 y21 y22 (y22 <<< ((10 : Int32).toInt64 &&& 63)))
def jX4_quotient_y21 (a0 : Int32) (a1 : Int64) (a3 : Int64) (y1 : Int32) (y3 : Int32) (y5 : Int32) (y7 : Int64) (y8 : Int64) (y11 : Int32) (y12 : Int32) (y13 : Int64) (y14 : Int64) (y15 : Int64) (y16 : Int64) (y17 : Int64) (y18 : Int64) (y19 : Int64) (y20 : Int64) (y21 : Int64) : Int64 := (jX4_quotient_y22 a0 a1 a3 y1 y3 y5 y7 y8 y11 y12 y13 y14 y15 y16 y17 y18 y19 y20 y21 (y20 - y20 / y14 * y14))
def jX4_quotient_y20 (a0 : Int32) (a1 : Int64) (a3 : Int64) (y1 : Int32) (y3 : Int32) (y5 : Int32) (y7 : Int64) (y8 : Int64) (y11 : Int32) (y12 : Int32) (y13 : Int64) (y14 : Int64) (y15 : Int64) (y16 : Int64) (y17 : Int64) (y18 : Int64) (y19 : Int64) (y20 : Int64) : Int64 := (jX4_quotient_y21 a0 a1 a3 y1 y3 y5 y7 y8 y11 y12 y13 y14 y15 y16 y17 y18 y19 y20 ((y18 <<< ((10 : Int32).toInt64 &&& 63)) ||| (y20 / y14)))
def jX4_quotient_y19 (a0 : Int32) (a1 : Int64) (a3 : Int64) (y1 : Int32) (y3 : Int32) (y5 : Int32) (y7 : Int64) (y8 : Int64) (y11 : Int32) (y12 : Int32) (y13 : Int64) (y14 : Int64) (y15 : Int64) (y16 : Int64) (y17 : Int64) (y18 : Int64) (y19 : Int64) : Int64 := (jX4_quotient_y20 a0 a1 a3 y1 y3 y5 y7 y8 y11 y12 y13 y14 y15 y16 y17 y18 y19 (y19 <<< ((10 : Int32).toInt64 &&& 63)))
def jX4_quotient_y18 (a0 : Int32) (a1 : Int64) (a3 : Int64) (y1 : Int32) (y3 : Int32) (y5 : Int32) (y7 : Int64) (y8 : Int64) (y11 : Int32) (y12 : Int32) (y13 : Int64) (y14 : Int64) (y15 : Int64) (y16 : Int64) (y17 : Int64) (y18 : Int64) : Int64 := (jX4_quotient_y19 a0 a1 a3 y1 y3 y5 y7 y8 y11 y12 y13 y14 y15 y16 y17 y18 (y17 - y17 / y14 * y14))
def jX4_quotient_y17 (a0 : Int32) (a1 : Int64) (a3 : Int64) (y1 : Int32) (y3 : Int32) (y5 : Int32) (y7 : Int64) (y8 : Int64) (y11 : Int32) (y12 : Int32) (y13 : Int64) (y14 : Int64) (y15 : Int64) (y16 : Int64) (y17 : Int64) : Int64 := (jX4_quotient_y18 a0 a1 a3 y1 y3 y5 y7 y8 y11 y12 y13 y14 y15 y16 y17 ((y15 <<< ((10 : Int32).toInt64 &&& 63)) ||| (y17 / y14)))
def jX4_quotient_y16 (a0 : Int32) (a1 : Int64) (a3 : Int64) (y1 : Int32) (y3 : Int32) (y5 : Int32) (y7 : Int64) (y8 : Int64) (y11 : Int32) (y12 : Int32) (y13 : Int64) (y14 : Int64) (y15 : Int64) (y16 : Int64) : Int64 := (jX4_quotient_y17 a0 a1 a3 y1 y3 y5 y7 y8 y11 y12 y13 y14 y15 y16 (y16 <<< ((10 : Int32).toInt64 &&& 63)))
def jX4_quotient_y15 (a0 : Int32) (a1 : Int64) (a3 : Int64) (y1 : Int32) (y3 : Int32) (y5 : Int32) (y7 : Int64) (y8 : Int64) (y11 : Int32) (y12 : Int32) (y13 : Int64) (y14 : Int64) (y15 : Int64) : Int64 := (jX4_quotient_y16 a0 a1 a3 y1 y3 y5 y7 y8 y11 y12 y13 y14 y15 (y13 - y13 / y14 * y14))
def jX4_quotient_y14 (a0 : Int32) (a1 : Int64) (a3 : Int64) (y1 : Int32) (y3 : Int32) (y5 : Int32) (y7 : Int64) (y8 : Int64) (y11 : Int32) (y12 : Int32) (y13 : Int64) (y14 : Int64) : Int64 := (jX4_quotient_y15 a0 a1 a3 y1 y3 y5 y7 y8 y11 y12 y13 y14 (y13 / y14))
def jX4_quotient_y13 (a0 : Int32) (a1 : Int64) (a3 : Int64) (y1 : Int32) (y3 : Int32) (y5 : Int32) (y7 : Int64) (y8 : Int64) (y11 : Int32) (y12 : Int32) (y13 : Int64) : Int64 := (jX4_quotient_y14 a0 a1 a3 y1 y3 y5 y7 y8 y11 y12 y13 (y8 <<< (y12.toInt64 &&& 63)))
def jX4_quotient_y12 (a0 : Int32) (a1 : Int64) (a3 : Int64) (y1 : Int32) (y3 : Int32) (y5 : Int32) (y7 : Int64) (y8 : Int64) (y11 : Int32) (y12 : Int32) : Int64 := (jX4_quotient_y13 a0 a1 a3 y1 y3 y5 y7 y8 y11 y12 (y7 <<< (y11.toInt64 &&& 63)))
def jX4_quotient_y11 (a0 : Int32) (a1 : Int64) (a3 : Int64) (y1 : Int32) (y3 : Int32) (y5 : Int32) (y7 : Int64) (y8 : Int64) (y11 : Int32) : Int64 := (jX4_quotient_y12 a0 a1 a3 y1 y3 y5 y7 y8 y11 ((53 : Int32) - (jX4_lengthOf y8)))
def jX4_quotient_y8 (a0 : Int32) (a1 : Int64) (a3 : Int64) (y1 : Int32) (y3 : Int32) (y5 : Int32) (y7 : Int64) (y8 : Int64) : Int64 := (if y7 = (0 : Int64) then (jX4_signed a0 y5 (0 : Int64)) else (if y8 = (0 : Int64) then (jX4_signed a0 y5 (0 : Int64)) else (jX4_quotient_y11 a0 a1 a3 y1 y3 y5 y7 y8 ((53 : Int32) - (jX4_lengthOf y7)))))
def jX4_quotient_y7 (a0 : Int32) (a1 : Int64) (a3 : Int64) (y1 : Int32) (y3 : Int32) (y5 : Int32) (y7 : Int64) : Int64 := (jX4_quotient_y8 a0 a1 a3 y1 y3 y5 y7 (jX4_mantissa a0 a3))
def jX4_quotient_y5 (a0 : Int32) (a1 : Int64) (a3 : Int64) (y1 : Int32) (y3 : Int32) (y5 : Int32) : Int64 := (jX4_quotient_y7 a0 a1 a3 y1 y3 y5 (jX4_mantissa a0 a1))
def jX4_quotient_y3 (a0 : Int32) (a1 : Int64) (a3 : Int64) (y1 : Int32) (y3 : Int32) : Int64 := (jX4_quotient_y5 a0 a1 a3 y1 y3 (if y1 = y3 then (0 : Int32) else (1 : Int32)))
def jX4_quotient_y1 (a0 : Int32) (a1 : Int64) (a3 : Int64) (y1 : Int32) : Int64 := (jX4_quotient_y3 a0 a1 a3 y1 (if (0 : Int64) ≤ a3 then (0 : Int32) else (1 : Int32)))
def jX4_quotient (a0 : Int32) (a1 : Int64) (a3 : Int64) : Int64 := (jX4_quotient_y1 a0 a1 a3 (if (0 : Int64) ≤ a1 then (0 : Int32) else (1 : Int32)))
set_option maxHeartbeats 4000000 in
set_option maxRecDepth 100000 in
theorem qX4_quotient (l : Launch) (a0 : Int32) (a1 : Int64) (a3 : Int64) : Met l yX4_quotient wsX4_quotient ({ frames := 4, cells := 0, slots := 0, locals := 96 }) (fun v _ => v = ([.int a0, .long a1, .long a3] : List Value).toArray) (vp_Sl (fun r => r = jX4_quotient a0 a1 a3)) 0 0 (fun _ => False) := by
  refine Met.ofW (cc := cX4_quotient) (maxL := 17) (ret := some .long) (by decide) rfl ?_
  intro p e s m args below meth c s₁ B hml hv
  subst hv
  have hx := B.exec
  have hb := B.bytes
  have hr := B.returns
  have hts := atoms_spec (ws := wsX4_quotient) B.pre
  have hown : s.vm.findClass RX4 = some m.cls := findClass_of_methodNamed B.named
  have hlocks := B.notSynchronized
  obtain ⟨JR, hE⟩ : ∃ q, jX4_quotient a0 a1 a3 = q := ⟨_, rfl⟩
  have hJ := hE
  rw [jX4_quotient] at hJ
  have hl := lv_entry ([.int a0, .long a1, .long a3]) (n := 17) (Nat.le_of_ble_eq_true rfl)
  rw [lg_entry_eq]
  generalize (lg_sl ([.int a0, .long a1, .long a3]) ++ List.replicate (17 - (lg_sl ([.int a0, .long a1, .long a3])).length) Slot.unset).toArray = ls at hl ⊢
  have hl : lv_has ls 17 [(0, .int a0), (1, .long a1), (3, .long a3)] := hl
  refine lv_lload_n hx hb dX4_quotient_0 rfl (lv_at hl 1 rfl) ?_
  refine lv_lconst (v := (0 : Int64)) hx hb dX4_quotient_1 (by decide) ?_
  refine W.lcmp hx hb dX4_quotient_2 ?_
  refine jn_i (J := 11) (ls := ls) (v := (if (0 : Int64) ≤ a1 then (0 : Int32) else (1 : Int32))) (rest := []) ?_ (fun y1 ey1 => ?_)
  · intro hj
    refine lv_if_ge (tgt := 10) hx hb dX4_quotient_3 (by decide) (fun c2 => ?_) (fun c2 => ?_)
    · have c2 := (lg_cmp_ge _ _).mp c2
      rw [if_pos c2] at hj
      refine lv_iconst (v := (0 : Int32)) hx hb dX4_quotient_10 (by decide) ?_
      exact hj
    · have c2 := mt (lg_cmp_ge _ _).mpr c2
      rw [if_neg c2] at hj
      refine lv_iconst (v := (1 : Int32)) hx hb dX4_quotient_6 (by decide) ?_
      refine lv_goto (tgt := 11) hx hb dX4_quotient_7 (by decide) ?_
      exact hj
  rw [← ey1] at hJ
  rw [jX4_quotient_y1] at hJ
  refine lv_lload_n hx hb dX4_quotient_11 rfl (lv_at hl 2 rfl) ?_
  refine lv_lconst (v := (0 : Int64)) hx hb dX4_quotient_12 (by decide) ?_
  refine W.lcmp hx hb dX4_quotient_13 ?_
  refine jn_i (J := 22) (ls := ls) (v := (if (0 : Int64) ≤ a3 then (0 : Int32) else (1 : Int32))) (rest := [.int y1]) ?_ (fun y3 ey3 => ?_)
  · intro hj
    refine lv_if_ge (tgt := 21) hx hb dX4_quotient_14 (by decide) (fun c4 => ?_) (fun c4 => ?_)
    · have c4 := (lg_cmp_ge _ _).mp c4
      rw [if_pos c4] at hj
      refine lv_iconst (v := (0 : Int32)) hx hb dX4_quotient_21 (by decide) ?_
      exact hj
    · have c4 := mt (lg_cmp_ge _ _).mpr c4
      rw [if_neg c4] at hj
      refine lv_iconst (v := (1 : Int32)) hx hb dX4_quotient_17 (by decide) ?_
      refine lv_goto (tgt := 22) hx hb dX4_quotient_18 (by decide) ?_
      exact hj
  rw [← ey3] at hJ
  rw [jX4_quotient_y3] at hJ
  refine jn_i (J := 30) (ls := ls) (v := (if y1 = y3 then (0 : Int32) else (1 : Int32))) (rest := []) ?_ (fun y5 ey5 => ?_)
  · intro hj
    refine lv_icmp_eq (tgt := 29) hx hb dX4_quotient_22 (by decide) (fun c6 => ?_) (fun c6 => ?_)
    · skip
      rw [if_pos c6] at hj
      refine lv_iconst (v := (0 : Int32)) hx hb dX4_quotient_29 (by decide) ?_
      exact hj
    · skip
      rw [if_neg c6] at hj
      refine lv_iconst (v := (1 : Int32)) hx hb dX4_quotient_25 (by decide) ?_
      refine lv_goto (tgt := 30) hx hb dX4_quotient_26 (by decide) ?_
      exact hj
  rw [← ey5] at hJ
  rw [jX4_quotient_y5] at hJ
  refine lv_istore (lv' := [(5, .int y5), (0, .int a0), (1, .long a1), (3, .long a3)]) hx hb dX4_quotient_30 hl (by decide) rfl (fun ls hl => ?_)
  refine lv_iload_n hx hb dX4_quotient_32 rfl (lv_at hl 1 rfl) ?_
  refine lv_lload_n hx hb dX4_quotient_33 rfl (lv_at hl 2 rfl) ?_
  refine vp_callSl (W.runS (As := [.int a0, .long a1]) (rest := []) ⟨hx, hb, hml, hown, hts⟩ (qX4_mantissa l a0 a1) (va_cwS 2 hts gX4_quotient_X4_mantissa rfl rfl rfl (by decide +kernel) ⟨Nat.le_of_ble_eq_true rfl, Nat.le_of_ble_eq_true rfl⟩) ⟨fun _ _ _ _ q => q, fun U hU hW => rfl⟩ rfl rfl hl.1 rfl (lv_room (Nat.le_of_ble_eq_true rfl)) dX4_quotient_34 ⟨Nat.le_of_ble_eq_true rfl, Nat.le_of_ble_eq_true rfl⟩) (fun r hr => ?_)
  subst hr
  refine lv_topl (fun y7 ey7 => ?_)
  rw [← ey7] at hJ
  rw [jX4_quotient_y7] at hJ
  refine lv_lstore (lv' := [(6, .long y7), (5, .int y5), (0, .int a0), (1, .long a1), (3, .long a3)]) hx hb dX4_quotient_37 hl (by decide) rfl (fun ls hl => ?_)
  refine lv_iload_n hx hb dX4_quotient_39 rfl (lv_at hl 2 rfl) ?_
  refine lv_lload_n hx hb dX4_quotient_40 rfl (lv_at hl 4 rfl) ?_
  refine vp_callSl (W.runS (As := [.int a0, .long a3]) (rest := []) ⟨hx, hb, hml, hown, hts⟩ (qX4_mantissa l a0 a3) (va_cwS 2 hts gX4_quotient_X4_mantissa rfl rfl rfl (by decide +kernel) ⟨Nat.le_of_ble_eq_true rfl, Nat.le_of_ble_eq_true rfl⟩) ⟨fun _ _ _ _ q => q, fun U hU hW => rfl⟩ rfl rfl hl.1 rfl (lv_room (Nat.le_of_ble_eq_true rfl)) dX4_quotient_41 ⟨Nat.le_of_ble_eq_true rfl, Nat.le_of_ble_eq_true rfl⟩) (fun r hr => ?_)
  subst hr
  refine lv_topl (fun y8 ey8 => ?_)
  rw [← ey8] at hJ
  rw [jX4_quotient_y8] at hJ
  refine lv_lstore (lv' := [(8, .long y8), (6, .long y7), (5, .int y5), (0, .int a0), (1, .long a1), (3, .long a3)]) hx hb dX4_quotient_44 hl (by decide) rfl (fun ls hl => ?_)
  refine lv_lload hx hb dX4_quotient_46 (lv_at hl 1 rfl) ?_
  refine lv_lconst (v := (0 : Int64)) hx hb dX4_quotient_48 (by decide) ?_
  refine W.lcmp hx hb dX4_quotient_49 ?_
  refine lv_if_eq (tgt := 60) hx hb dX4_quotient_50 (by decide) (fun c9 => ?_) (fun c9 => ?_)
  · have c9 := (lg_cmp_eq _ _).mp c9
    rw [if_pos c9] at hJ
    refine lv_iload_n hx hb dX4_quotient_60 rfl (lv_at hl 3 rfl) ?_
    refine lv_iload hx hb dX4_quotient_61 (lv_at hl 2 rfl) ?_
    refine lv_lconst (v := (0 : Int64)) hx hb dX4_quotient_63 (by decide) ?_
    refine vp_callSl (W.runS (As := [.int a0, .int y5, .long (0 : Int64)]) (rest := []) ⟨hx, hb, hml, hown, hts⟩ (qX4_signed l a0 y5 (0 : Int64)) (va_cwS 3 hts gX4_quotient_X4_signed rfl rfl rfl (by decide +kernel) ⟨Nat.le_of_ble_eq_true rfl, Nat.le_of_ble_eq_true rfl⟩) ⟨fun _ _ _ _ q => q, fun U hU hW => rfl⟩ rfl rfl hl.1 rfl (lv_room (Nat.le_of_ble_eq_true rfl)) dX4_quotient_64 ⟨Nat.le_of_ble_eq_true rfl, Nat.le_of_ble_eq_true rfl⟩) (fun r hr => ?_)
    subst hr
    exact W.lret hx hb hr (fun t ht hW => ⟨_, rfl, hJ.trans hE.symm, ht⟩) (fun q h => absurd h List.not_mem_nil) dX4_quotient_67
  · have c9 := mt (lg_cmp_eq _ _).mpr c9
    rw [if_neg c9] at hJ
    refine lv_lload hx hb dX4_quotient_53 (lv_at hl 0 rfl) ?_
    refine lv_lconst (v := (0 : Int64)) hx hb dX4_quotient_55 (by decide) ?_
    refine W.lcmp hx hb dX4_quotient_56 ?_
    refine lv_if_ne (tgt := 68) hx hb dX4_quotient_57 (by decide) (fun c10 => ?_) (fun c10 => ?_)
    · have c10 := mt (lg_cmp_eq _ _).mpr c10
      rw [if_neg c10] at hJ
      refine lv_bipush (v := (53 : Int32)) hx hb dX4_quotient_68 (by decide) ?_
      refine lv_lload hx hb dX4_quotient_70 (lv_at hl 1 rfl) ?_
      refine vp_callSi (W.runS (As := [.long y7]) (rest := [.int (53 : Int32)]) ⟨hx, hb, hml, hown, hts⟩ (qX4_lengthOf l y7) (va_cwS 1 hts gX4_quotient_X4_lengthOf rfl rfl rfl (by decide +kernel) ⟨Nat.le_of_ble_eq_true rfl, Nat.le_of_ble_eq_true rfl⟩) ⟨fun _ _ _ _ q => q, fun U hU hW => rfl⟩ rfl rfl hl.1 rfl (lv_room (Nat.le_of_ble_eq_true rfl)) dX4_quotient_72 ⟨Nat.le_of_ble_eq_true rfl, Nat.le_of_ble_eq_true rfl⟩) (fun r hr => ?_)
      subst hr
      refine lv_isub hx hb dX4_quotient_75 ?_
      refine lv_topi (fun y11 ey11 => ?_)
      rw [← ey11] at hJ
      rw [jX4_quotient_y11] at hJ
      refine lv_istore (lv' := [(10, .int y11), (8, .long y8), (6, .long y7), (5, .int y5), (0, .int a0), (1, .long a1), (3, .long a3)]) hx hb dX4_quotient_76 hl (by decide) rfl (fun ls hl => ?_)
      refine lv_bipush (v := (53 : Int32)) hx hb dX4_quotient_78 (by decide) ?_
      refine lv_lload hx hb dX4_quotient_80 (lv_at hl 1 rfl) ?_
      refine vp_callSi (W.runS (As := [.long y8]) (rest := [.int (53 : Int32)]) ⟨hx, hb, hml, hown, hts⟩ (qX4_lengthOf l y8) (va_cwS 1 hts gX4_quotient_X4_lengthOf rfl rfl rfl (by decide +kernel) ⟨Nat.le_of_ble_eq_true rfl, Nat.le_of_ble_eq_true rfl⟩) ⟨fun _ _ _ _ q => q, fun U hU hW => rfl⟩ rfl rfl hl.1 rfl (lv_room (Nat.le_of_ble_eq_true rfl)) dX4_quotient_82 ⟨Nat.le_of_ble_eq_true rfl, Nat.le_of_ble_eq_true rfl⟩) (fun r hr => ?_)
      subst hr
      refine lv_isub hx hb dX4_quotient_85 ?_
      refine lv_topi (fun y12 ey12 => ?_)
      rw [← ey12] at hJ
      rw [jX4_quotient_y12] at hJ
      refine lv_istore (lv' := [(11, .int y12), (10, .int y11), (8, .long y8), (6, .long y7), (5, .int y5), (0, .int a0), (1, .long a1), (3, .long a3)]) hx hb dX4_quotient_86 hl (by decide) rfl (fun ls hl => ?_)
      refine lv_lload hx hb dX4_quotient_88 (lv_at hl 3 rfl) ?_
      refine lv_iload hx hb dX4_quotient_90 (lv_at hl 1 rfl) ?_
      refine lv_lshl (v := (y7 <<< (y11.toInt64 &&& 63))) hx hb dX4_quotient_92 rfl ?_
      refine lv_topl (fun y13 ey13 => ?_)
      rw [← ey13] at hJ
      rw [jX4_quotient_y13] at hJ
      refine lv_lstore (lv' := [(6, .long y13), (11, .int y12), (10, .int y11), (8, .long y8), (5, .int y5), (0, .int a0), (1, .long a1), (3, .long a3)]) hx hb dX4_quotient_93 hl (by decide) rfl (fun ls hl => ?_)
      refine lv_lload hx hb dX4_quotient_95 (lv_at hl 3 rfl) ?_
      refine lv_iload hx hb dX4_quotient_97 (lv_at hl 1 rfl) ?_
      refine lv_lshl (v := (y8 <<< (y12.toInt64 &&& 63))) hx hb dX4_quotient_99 rfl ?_
      refine lv_topl (fun y14 ey14 => ?_)
      rw [← ey14] at hJ
      rw [jX4_quotient_y14] at hJ
      refine lv_lstore (lv' := [(8, .long y14), (6, .long y13), (11, .int y12), (10, .int y11), (5, .int y5), (0, .int a0), (1, .long a1), (3, .long a3)]) hx hb dX4_quotient_100 hl (by decide) rfl (fun ls hl => ?_)
      have hnz : ¬ y14 = 0 := by subst ey14 ey12 ey8; exact p_quot_ne _ _ (by assumption)
      refine lv_lload hx hb dX4_quotient_102 (lv_at hl 1 rfl) ?_
      refine lv_lload hx hb dX4_quotient_104 (lv_at hl 0 rfl) ?_
      refine lv_ldiv hx hb dX4_quotient_106 hnz ?_
      refine lv_topl (fun y15 ey15 => ?_)
      rw [← ey15] at hJ
      rw [jX4_quotient_y15] at hJ
      refine lv_lstore (lv' := [(12, .long y15), (8, .long y14), (6, .long y13), (11, .int y12), (10, .int y11), (5, .int y5), (0, .int a0), (1, .long a1), (3, .long a3)]) hx hb dX4_quotient_107 hl (by decide) rfl (fun ls hl => ?_)
      refine lv_lload hx hb dX4_quotient_109 (lv_at hl 2 rfl) ?_
      refine lv_lload hx hb dX4_quotient_111 (lv_at hl 1 rfl) ?_
      refine lv_lrem hx hb dX4_quotient_113 hnz ?_
      refine lv_topl (fun y16 ey16 => ?_)
      rw [← ey16] at hJ
      rw [jX4_quotient_y16] at hJ
      refine lv_lstore (lv' := [(14, .long y16), (12, .long y15), (8, .long y14), (6, .long y13), (11, .int y12), (10, .int y11), (5, .int y5), (0, .int a0), (1, .long a1), (3, .long a3)]) hx hb dX4_quotient_114 hl (by decide) rfl (fun ls hl => ?_)
      refine lv_iconst (v := (0 : Int32)) hx hb dX4_quotient_116 (by decide) ?_
      refine lv_istore (lv' := [(16, .int (0 : Int32)), (14, .long y16), (12, .long y15), (8, .long y14), (6, .long y13), (11, .int y12), (10, .int y11), (5, .int y5), (0, .int a0), (1, .long a1), (3, .long a3)]) hx hb dX4_quotient_117 hl (by decide) rfl (fun ls hl => ?_)
      refine lv_iload hx hb dX4_quotient_119 (lv_at hl 0 rfl) ?_
      refine lv_bipush (v := (6 : Int32)) hx hb dX4_quotient_121 (by decide) ?_
      refine lv_icmp_ge (tgt := 159) hx hb dX4_quotient_123 (by decide) (fun cq => absurd cq (by decide)) (fun cq => ?_)
      refine lv_lload hx hb dX4_quotient_126 (lv_at hl 1 rfl) ?_
      refine lv_bipush (v := (10 : Int32)) hx hb dX4_quotient_128 (by decide) ?_
      refine lv_lshl (v := (y16 <<< ((10 : Int32).toInt64 &&& 63))) hx hb dX4_quotient_130 rfl ?_
      refine lv_topl (fun y17 ey17 => ?_)
      rw [← ey17] at hJ
      rw [jX4_quotient_y17] at hJ
      refine lv_lstore (lv' := [(14, .long y17), (16, .int (0 : Int32)), (12, .long y15), (8, .long y14), (6, .long y13), (11, .int y12), (10, .int y11), (5, .int y5), (0, .int a0), (1, .long a1), (3, .long a3)]) hx hb dX4_quotient_131 hl (by decide) rfl (fun ls hl => ?_)
      refine lv_lload hx hb dX4_quotient_133 (lv_at hl 2 rfl) ?_
      refine lv_bipush (v := (10 : Int32)) hx hb dX4_quotient_135 (by decide) ?_
      refine lv_lshl (v := (y15 <<< ((10 : Int32).toInt64 &&& 63))) hx hb dX4_quotient_137 rfl ?_
      refine lv_lload hx hb dX4_quotient_138 (lv_at hl 0 rfl) ?_
      refine lv_lload hx hb dX4_quotient_140 (lv_at hl 3 rfl) ?_
      refine lv_ldiv hx hb dX4_quotient_142 hnz ?_
      refine lv_lor hx hb dX4_quotient_143 ?_
      refine lv_topl (fun y18 ey18 => ?_)
      rw [← ey18] at hJ
      rw [jX4_quotient_y18] at hJ
      refine lv_lstore (lv' := [(12, .long y18), (14, .long y17), (16, .int (0 : Int32)), (8, .long y14), (6, .long y13), (11, .int y12), (10, .int y11), (5, .int y5), (0, .int a0), (1, .long a1), (3, .long a3)]) hx hb dX4_quotient_144 hl (by decide) rfl (fun ls hl => ?_)
      refine lv_lload hx hb dX4_quotient_146 (lv_at hl 1 rfl) ?_
      refine lv_lload hx hb dX4_quotient_148 (lv_at hl 3 rfl) ?_
      refine lv_lrem hx hb dX4_quotient_150 hnz ?_
      refine lv_topl (fun y19 ey19 => ?_)
      rw [← ey19] at hJ
      rw [jX4_quotient_y19] at hJ
      refine lv_lstore (lv' := [(14, .long y19), (12, .long y18), (16, .int (0 : Int32)), (8, .long y14), (6, .long y13), (11, .int y12), (10, .int y11), (5, .int y5), (0, .int a0), (1, .long a1), (3, .long a3)]) hx hb dX4_quotient_151 hl (by decide) rfl (fun ls hl => ?_)
      refine lv_iinc (v := (1 : Int32)) (lv' := [(16, .int (1 : Int32)), (14, .long y19), (12, .long y18), (8, .long y14), (6, .long y13), (11, .int y12), (10, .int y11), (5, .int y5), (0, .int a0), (1, .long a1), (3, .long a3)]) hx hb dX4_quotient_153 hl (k := 2) rfl (by first | rfl | decide) (by decide) rfl (fun ls hl => ?_)
      refine lv_goto (tgt := 119) hx hb dX4_quotient_156 (by decide) ?_
      refine lv_iload hx hb dX4_quotient_119 (lv_at hl 0 rfl) ?_
      refine lv_bipush (v := (6 : Int32)) hx hb dX4_quotient_121 (by decide) ?_
      refine lv_icmp_ge (tgt := 159) hx hb dX4_quotient_123 (by decide) (fun cq => absurd cq (by decide)) (fun cq => ?_)
      refine lv_lload hx hb dX4_quotient_126 (lv_at hl 1 rfl) ?_
      refine lv_bipush (v := (10 : Int32)) hx hb dX4_quotient_128 (by decide) ?_
      refine lv_lshl (v := (y19 <<< ((10 : Int32).toInt64 &&& 63))) hx hb dX4_quotient_130 rfl ?_
      refine lv_topl (fun y20 ey20 => ?_)
      rw [← ey20] at hJ
      rw [jX4_quotient_y20] at hJ
      refine lv_lstore (lv' := [(14, .long y20), (16, .int (1 : Int32)), (12, .long y18), (8, .long y14), (6, .long y13), (11, .int y12), (10, .int y11), (5, .int y5), (0, .int a0), (1, .long a1), (3, .long a3)]) hx hb dX4_quotient_131 hl (by decide) rfl (fun ls hl => ?_)
      refine lv_lload hx hb dX4_quotient_133 (lv_at hl 2 rfl) ?_
      refine lv_bipush (v := (10 : Int32)) hx hb dX4_quotient_135 (by decide) ?_
      refine lv_lshl (v := (y18 <<< ((10 : Int32).toInt64 &&& 63))) hx hb dX4_quotient_137 rfl ?_
      refine lv_lload hx hb dX4_quotient_138 (lv_at hl 0 rfl) ?_
      refine lv_lload hx hb dX4_quotient_140 (lv_at hl 3 rfl) ?_
      refine lv_ldiv hx hb dX4_quotient_142 hnz ?_
      refine lv_lor hx hb dX4_quotient_143 ?_
      refine lv_topl (fun y21 ey21 => ?_)
      rw [← ey21] at hJ
      rw [jX4_quotient_y21] at hJ
      refine lv_lstore (lv' := [(12, .long y21), (14, .long y20), (16, .int (1 : Int32)), (8, .long y14), (6, .long y13), (11, .int y12), (10, .int y11), (5, .int y5), (0, .int a0), (1, .long a1), (3, .long a3)]) hx hb dX4_quotient_144 hl (by decide) rfl (fun ls hl => ?_)
      refine lv_lload hx hb dX4_quotient_146 (lv_at hl 1 rfl) ?_
      refine lv_lload hx hb dX4_quotient_148 (lv_at hl 3 rfl) ?_
      refine lv_lrem hx hb dX4_quotient_150 hnz ?_
      refine lv_topl (fun y22 ey22 => ?_)
      rw [← ey22] at hJ
      rw [jX4_quotient_y22] at hJ
      refine lv_lstore (lv' := [(14, .long y22), (12, .long y21), (16, .int (1 : Int32)), (8, .long y14), (6, .long y13), (11, .int y12), (10, .int y11), (5, .int y5), (0, .int a0), (1, .long a1), (3, .long a3)]) hx hb dX4_quotient_151 hl (by decide) rfl (fun ls hl => ?_)
      refine lv_iinc (v := (2 : Int32)) (lv' := [(16, .int (2 : Int32)), (14, .long y22), (12, .long y21), (8, .long y14), (6, .long y13), (11, .int y12), (10, .int y11), (5, .int y5), (0, .int a0), (1, .long a1), (3, .long a3)]) hx hb dX4_quotient_153 hl (k := 2) rfl (by first | rfl | decide) (by decide) rfl (fun ls hl => ?_)
      refine lv_goto (tgt := 119) hx hb dX4_quotient_156 (by decide) ?_
      refine lv_iload hx hb dX4_quotient_119 (lv_at hl 0 rfl) ?_
      refine lv_bipush (v := (6 : Int32)) hx hb dX4_quotient_121 (by decide) ?_
      refine lv_icmp_ge (tgt := 159) hx hb dX4_quotient_123 (by decide) (fun cq => absurd cq (by decide)) (fun cq => ?_)
      refine lv_lload hx hb dX4_quotient_126 (lv_at hl 1 rfl) ?_
      refine lv_bipush (v := (10 : Int32)) hx hb dX4_quotient_128 (by decide) ?_
      refine lv_lshl (v := (y22 <<< ((10 : Int32).toInt64 &&& 63))) hx hb dX4_quotient_130 rfl ?_
      refine lv_topl (fun y23 ey23 => ?_)
      rw [← ey23] at hJ
      rw [jX4_quotient_y23] at hJ
      refine lv_lstore (lv' := [(14, .long y23), (16, .int (2 : Int32)), (12, .long y21), (8, .long y14), (6, .long y13), (11, .int y12), (10, .int y11), (5, .int y5), (0, .int a0), (1, .long a1), (3, .long a3)]) hx hb dX4_quotient_131 hl (by decide) rfl (fun ls hl => ?_)
      refine lv_lload hx hb dX4_quotient_133 (lv_at hl 2 rfl) ?_
      refine lv_bipush (v := (10 : Int32)) hx hb dX4_quotient_135 (by decide) ?_
      refine lv_lshl (v := (y21 <<< ((10 : Int32).toInt64 &&& 63))) hx hb dX4_quotient_137 rfl ?_
      refine lv_lload hx hb dX4_quotient_138 (lv_at hl 0 rfl) ?_
      refine lv_lload hx hb dX4_quotient_140 (lv_at hl 3 rfl) ?_
      refine lv_ldiv hx hb dX4_quotient_142 hnz ?_
      refine lv_lor hx hb dX4_quotient_143 ?_
      refine lv_topl (fun y24 ey24 => ?_)
      rw [← ey24] at hJ
      rw [jX4_quotient_y24] at hJ
      refine lv_lstore (lv' := [(12, .long y24), (14, .long y23), (16, .int (2 : Int32)), (8, .long y14), (6, .long y13), (11, .int y12), (10, .int y11), (5, .int y5), (0, .int a0), (1, .long a1), (3, .long a3)]) hx hb dX4_quotient_144 hl (by decide) rfl (fun ls hl => ?_)
      refine lv_lload hx hb dX4_quotient_146 (lv_at hl 1 rfl) ?_
      refine lv_lload hx hb dX4_quotient_148 (lv_at hl 3 rfl) ?_
      refine lv_lrem hx hb dX4_quotient_150 hnz ?_
      refine lv_topl (fun y25 ey25 => ?_)
      rw [← ey25] at hJ
      rw [jX4_quotient_y25] at hJ
      refine lv_lstore (lv' := [(14, .long y25), (12, .long y24), (16, .int (2 : Int32)), (8, .long y14), (6, .long y13), (11, .int y12), (10, .int y11), (5, .int y5), (0, .int a0), (1, .long a1), (3, .long a3)]) hx hb dX4_quotient_151 hl (by decide) rfl (fun ls hl => ?_)
      refine lv_iinc (v := (3 : Int32)) (lv' := [(16, .int (3 : Int32)), (14, .long y25), (12, .long y24), (8, .long y14), (6, .long y13), (11, .int y12), (10, .int y11), (5, .int y5), (0, .int a0), (1, .long a1), (3, .long a3)]) hx hb dX4_quotient_153 hl (k := 2) rfl (by first | rfl | decide) (by decide) rfl (fun ls hl => ?_)
      refine lv_goto (tgt := 119) hx hb dX4_quotient_156 (by decide) ?_
      refine lv_iload hx hb dX4_quotient_119 (lv_at hl 0 rfl) ?_
      refine lv_bipush (v := (6 : Int32)) hx hb dX4_quotient_121 (by decide) ?_
      refine lv_icmp_ge (tgt := 159) hx hb dX4_quotient_123 (by decide) (fun cq => absurd cq (by decide)) (fun cq => ?_)
      refine lv_lload hx hb dX4_quotient_126 (lv_at hl 1 rfl) ?_
      refine lv_bipush (v := (10 : Int32)) hx hb dX4_quotient_128 (by decide) ?_
      refine lv_lshl (v := (y25 <<< ((10 : Int32).toInt64 &&& 63))) hx hb dX4_quotient_130 rfl ?_
      refine lv_topl (fun y26 ey26 => ?_)
      rw [← ey26] at hJ
      rw [jX4_quotient_y26] at hJ
      refine lv_lstore (lv' := [(14, .long y26), (16, .int (3 : Int32)), (12, .long y24), (8, .long y14), (6, .long y13), (11, .int y12), (10, .int y11), (5, .int y5), (0, .int a0), (1, .long a1), (3, .long a3)]) hx hb dX4_quotient_131 hl (by decide) rfl (fun ls hl => ?_)
      refine lv_lload hx hb dX4_quotient_133 (lv_at hl 2 rfl) ?_
      refine lv_bipush (v := (10 : Int32)) hx hb dX4_quotient_135 (by decide) ?_
      refine lv_lshl (v := (y24 <<< ((10 : Int32).toInt64 &&& 63))) hx hb dX4_quotient_137 rfl ?_
      refine lv_lload hx hb dX4_quotient_138 (lv_at hl 0 rfl) ?_
      refine lv_lload hx hb dX4_quotient_140 (lv_at hl 3 rfl) ?_
      refine lv_ldiv hx hb dX4_quotient_142 hnz ?_
      refine lv_lor hx hb dX4_quotient_143 ?_
      refine lv_topl (fun y27 ey27 => ?_)
      rw [← ey27] at hJ
      rw [jX4_quotient_y27] at hJ
      refine lv_lstore (lv' := [(12, .long y27), (14, .long y26), (16, .int (3 : Int32)), (8, .long y14), (6, .long y13), (11, .int y12), (10, .int y11), (5, .int y5), (0, .int a0), (1, .long a1), (3, .long a3)]) hx hb dX4_quotient_144 hl (by decide) rfl (fun ls hl => ?_)
      refine lv_lload hx hb dX4_quotient_146 (lv_at hl 1 rfl) ?_
      refine lv_lload hx hb dX4_quotient_148 (lv_at hl 3 rfl) ?_
      refine lv_lrem hx hb dX4_quotient_150 hnz ?_
      refine lv_topl (fun y28 ey28 => ?_)
      rw [← ey28] at hJ
      rw [jX4_quotient_y28] at hJ
      refine lv_lstore (lv' := [(14, .long y28), (12, .long y27), (16, .int (3 : Int32)), (8, .long y14), (6, .long y13), (11, .int y12), (10, .int y11), (5, .int y5), (0, .int a0), (1, .long a1), (3, .long a3)]) hx hb dX4_quotient_151 hl (by decide) rfl (fun ls hl => ?_)
      refine lv_iinc (v := (4 : Int32)) (lv' := [(16, .int (4 : Int32)), (14, .long y28), (12, .long y27), (8, .long y14), (6, .long y13), (11, .int y12), (10, .int y11), (5, .int y5), (0, .int a0), (1, .long a1), (3, .long a3)]) hx hb dX4_quotient_153 hl (k := 2) rfl (by first | rfl | decide) (by decide) rfl (fun ls hl => ?_)
      refine lv_goto (tgt := 119) hx hb dX4_quotient_156 (by decide) ?_
      refine lv_iload hx hb dX4_quotient_119 (lv_at hl 0 rfl) ?_
      refine lv_bipush (v := (6 : Int32)) hx hb dX4_quotient_121 (by decide) ?_
      refine lv_icmp_ge (tgt := 159) hx hb dX4_quotient_123 (by decide) (fun cq => absurd cq (by decide)) (fun cq => ?_)
      refine lv_lload hx hb dX4_quotient_126 (lv_at hl 1 rfl) ?_
      refine lv_bipush (v := (10 : Int32)) hx hb dX4_quotient_128 (by decide) ?_
      refine lv_lshl (v := (y28 <<< ((10 : Int32).toInt64 &&& 63))) hx hb dX4_quotient_130 rfl ?_
      refine lv_topl (fun y29 ey29 => ?_)
      rw [← ey29] at hJ
      rw [jX4_quotient_y29] at hJ
      refine lv_lstore (lv' := [(14, .long y29), (16, .int (4 : Int32)), (12, .long y27), (8, .long y14), (6, .long y13), (11, .int y12), (10, .int y11), (5, .int y5), (0, .int a0), (1, .long a1), (3, .long a3)]) hx hb dX4_quotient_131 hl (by decide) rfl (fun ls hl => ?_)
      refine lv_lload hx hb dX4_quotient_133 (lv_at hl 2 rfl) ?_
      refine lv_bipush (v := (10 : Int32)) hx hb dX4_quotient_135 (by decide) ?_
      refine lv_lshl (v := (y27 <<< ((10 : Int32).toInt64 &&& 63))) hx hb dX4_quotient_137 rfl ?_
      refine lv_lload hx hb dX4_quotient_138 (lv_at hl 0 rfl) ?_
      refine lv_lload hx hb dX4_quotient_140 (lv_at hl 3 rfl) ?_
      refine lv_ldiv hx hb dX4_quotient_142 hnz ?_
      refine lv_lor hx hb dX4_quotient_143 ?_
      refine lv_topl (fun y30 ey30 => ?_)
      rw [← ey30] at hJ
      rw [jX4_quotient_y30] at hJ
      refine lv_lstore (lv' := [(12, .long y30), (14, .long y29), (16, .int (4 : Int32)), (8, .long y14), (6, .long y13), (11, .int y12), (10, .int y11), (5, .int y5), (0, .int a0), (1, .long a1), (3, .long a3)]) hx hb dX4_quotient_144 hl (by decide) rfl (fun ls hl => ?_)
      refine lv_lload hx hb dX4_quotient_146 (lv_at hl 1 rfl) ?_
      refine lv_lload hx hb dX4_quotient_148 (lv_at hl 3 rfl) ?_
      refine lv_lrem hx hb dX4_quotient_150 hnz ?_
      refine lv_topl (fun y31 ey31 => ?_)
      rw [← ey31] at hJ
      rw [jX4_quotient_y31] at hJ
      refine lv_lstore (lv' := [(14, .long y31), (12, .long y30), (16, .int (4 : Int32)), (8, .long y14), (6, .long y13), (11, .int y12), (10, .int y11), (5, .int y5), (0, .int a0), (1, .long a1), (3, .long a3)]) hx hb dX4_quotient_151 hl (by decide) rfl (fun ls hl => ?_)
      refine lv_iinc (v := (5 : Int32)) (lv' := [(16, .int (5 : Int32)), (14, .long y31), (12, .long y30), (8, .long y14), (6, .long y13), (11, .int y12), (10, .int y11), (5, .int y5), (0, .int a0), (1, .long a1), (3, .long a3)]) hx hb dX4_quotient_153 hl (k := 2) rfl (by first | rfl | decide) (by decide) rfl (fun ls hl => ?_)
      refine lv_goto (tgt := 119) hx hb dX4_quotient_156 (by decide) ?_
      refine lv_iload hx hb dX4_quotient_119 (lv_at hl 0 rfl) ?_
      refine lv_bipush (v := (6 : Int32)) hx hb dX4_quotient_121 (by decide) ?_
      refine lv_icmp_ge (tgt := 159) hx hb dX4_quotient_123 (by decide) (fun cq => absurd cq (by decide)) (fun cq => ?_)
      refine lv_lload hx hb dX4_quotient_126 (lv_at hl 1 rfl) ?_
      refine lv_bipush (v := (10 : Int32)) hx hb dX4_quotient_128 (by decide) ?_
      refine lv_lshl (v := (y31 <<< ((10 : Int32).toInt64 &&& 63))) hx hb dX4_quotient_130 rfl ?_
      refine lv_topl (fun y32 ey32 => ?_)
      rw [← ey32] at hJ
      rw [jX4_quotient_y32] at hJ
      refine lv_lstore (lv' := [(14, .long y32), (16, .int (5 : Int32)), (12, .long y30), (8, .long y14), (6, .long y13), (11, .int y12), (10, .int y11), (5, .int y5), (0, .int a0), (1, .long a1), (3, .long a3)]) hx hb dX4_quotient_131 hl (by decide) rfl (fun ls hl => ?_)
      refine lv_lload hx hb dX4_quotient_133 (lv_at hl 2 rfl) ?_
      refine lv_bipush (v := (10 : Int32)) hx hb dX4_quotient_135 (by decide) ?_
      refine lv_lshl (v := (y30 <<< ((10 : Int32).toInt64 &&& 63))) hx hb dX4_quotient_137 rfl ?_
      refine lv_lload hx hb dX4_quotient_138 (lv_at hl 0 rfl) ?_
      refine lv_lload hx hb dX4_quotient_140 (lv_at hl 3 rfl) ?_
      refine lv_ldiv hx hb dX4_quotient_142 hnz ?_
      refine lv_lor hx hb dX4_quotient_143 ?_
      refine lv_topl (fun y33 ey33 => ?_)
      rw [← ey33] at hJ
      rw [jX4_quotient_y33] at hJ
      refine lv_lstore (lv' := [(12, .long y33), (14, .long y32), (16, .int (5 : Int32)), (8, .long y14), (6, .long y13), (11, .int y12), (10, .int y11), (5, .int y5), (0, .int a0), (1, .long a1), (3, .long a3)]) hx hb dX4_quotient_144 hl (by decide) rfl (fun ls hl => ?_)
      refine lv_lload hx hb dX4_quotient_146 (lv_at hl 1 rfl) ?_
      refine lv_lload hx hb dX4_quotient_148 (lv_at hl 3 rfl) ?_
      refine lv_lrem hx hb dX4_quotient_150 hnz ?_
      refine lv_topl (fun y34 ey34 => ?_)
      rw [← ey34] at hJ
      rw [jX4_quotient_y34] at hJ
      refine lv_lstore (lv' := [(14, .long y34), (12, .long y33), (16, .int (5 : Int32)), (8, .long y14), (6, .long y13), (11, .int y12), (10, .int y11), (5, .int y5), (0, .int a0), (1, .long a1), (3, .long a3)]) hx hb dX4_quotient_151 hl (by decide) rfl (fun ls hl => ?_)
      refine lv_iinc (v := (6 : Int32)) (lv' := [(16, .int (6 : Int32)), (14, .long y34), (12, .long y33), (8, .long y14), (6, .long y13), (11, .int y12), (10, .int y11), (5, .int y5), (0, .int a0), (1, .long a1), (3, .long a3)]) hx hb dX4_quotient_153 hl (k := 2) rfl (by first | rfl | decide) (by decide) rfl (fun ls hl => ?_)
      refine lv_goto (tgt := 119) hx hb dX4_quotient_156 (by decide) ?_
      refine lv_iload hx hb dX4_quotient_119 (lv_at hl 0 rfl) ?_
      refine lv_bipush (v := (6 : Int32)) hx hb dX4_quotient_121 (by decide) ?_
      refine lv_icmp_ge (tgt := 159) hx hb dX4_quotient_123 (by decide) (fun cq => ?_) (fun cq => absurd cq (by decide))
      refine lv_iload_n hx hb dX4_quotient_159 rfl (lv_at hl 8 rfl) ?_
      refine lv_lload_n hx hb dX4_quotient_160 rfl (lv_at hl 9 rfl) ?_
      refine vp_callSi (W.runS (As := [.int a0, .long a1]) (rest := []) ⟨hx, hb, hml, hown, hts⟩ (qX4_exponent l a0 a1) (va_cwS 2 hts gX4_quotient_X4_exponent rfl rfl rfl (by decide +kernel) ⟨Nat.le_of_ble_eq_true rfl, Nat.le_of_ble_eq_true rfl⟩) ⟨fun _ _ _ _ q => q, fun U hU hW => rfl⟩ rfl rfl hl.1 rfl (lv_room (Nat.le_of_ble_eq_true rfl)) dX4_quotient_161 ⟨Nat.le_of_ble_eq_true rfl, Nat.le_of_ble_eq_true rfl⟩) (fun r hr => ?_)
      subst hr
      refine lv_iload hx hb dX4_quotient_164 (lv_at hl 6 rfl) ?_
      refine lv_isub hx hb dX4_quotient_166 ?_
      refine lv_iload_n hx hb dX4_quotient_167 rfl (lv_at hl 8 rfl) ?_
      refine lv_lload_n hx hb dX4_quotient_168 rfl (lv_at hl 10 rfl) ?_
      refine vp_callSi (W.runS (As := [.int a0, .long a3]) (rest := [.int ((jX4_exponent a0 a1) - y11)]) ⟨hx, hb, hml, hown, hts⟩ (qX4_exponent l a0 a3) (va_cwS 2 hts gX4_quotient_X4_exponent rfl rfl rfl (by decide +kernel) ⟨Nat.le_of_ble_eq_true rfl, Nat.le_of_ble_eq_true rfl⟩) ⟨fun _ _ _ _ q => q, fun U hU hW => rfl⟩ rfl rfl hl.1 rfl (lv_room (Nat.le_of_ble_eq_true rfl)) dX4_quotient_169 ⟨Nat.le_of_ble_eq_true rfl, Nat.le_of_ble_eq_true rfl⟩) (fun r hr => ?_)
      subst hr
      refine lv_isub hx hb dX4_quotient_172 ?_
      refine lv_iload hx hb dX4_quotient_173 (lv_at hl 5 rfl) ?_
      refine lv_iadd hx hb dX4_quotient_175 ?_
      refine lv_topi (fun y35 ey35 => ?_)
      rw [← ey35] at hJ
      rw [jX4_quotient_y35] at hJ
      refine lv_istore (lv' := [(16, .int y35), (14, .long y34), (12, .long y33), (8, .long y14), (6, .long y13), (11, .int y12), (10, .int y11), (5, .int y5), (0, .int a0), (1, .long a1), (3, .long a3)]) hx hb dX4_quotient_176 hl (by decide) rfl (fun ls hl => ?_)
      refine lv_iload_n hx hb dX4_quotient_178 rfl (lv_at hl 8 rfl) ?_
      refine lv_iload hx hb dX4_quotient_179 (lv_at hl 7 rfl) ?_
      refine lv_lload hx hb dX4_quotient_181 (lv_at hl 2 rfl) ?_
      refine lv_lload hx hb dX4_quotient_183 (lv_at hl 1 rfl) ?_
      refine vp_callSl (W.runS (As := [.long y33, .long y34]) (rest := [.int y5, .int a0]) ⟨hx, hb, hml, hown, hts⟩ (qX4_withMore l y33 y34) (va_cwS 2 hts gX4_quotient_X4_withMore rfl rfl rfl (by decide +kernel) ⟨Nat.le_of_ble_eq_true rfl, Nat.le_of_ble_eq_true rfl⟩) ⟨fun _ _ _ _ q => q, fun U hU hW => rfl⟩ rfl rfl hl.1 rfl (lv_room (Nat.le_of_ble_eq_true rfl)) dX4_quotient_185 ⟨Nat.le_of_ble_eq_true rfl, Nat.le_of_ble_eq_true rfl⟩) (fun r hr => ?_)
      subst hr
      refine lv_iload hx hb dX4_quotient_188 (lv_at hl 0 rfl) ?_
      refine lv_bipush (v := (60 : Int32)) hx hb dX4_quotient_190 (by decide) ?_
      refine lv_isub hx hb dX4_quotient_192 ?_
      refine vp_callSl (W.runS (As := [.int a0, .int y5, .long (jX4_withMore y33 y34), .int (y35 - (60 : Int32))]) (rest := []) ⟨hx, hb, hml, hown, hts⟩ (qX4_nearest l a0 y5 (jX4_withMore y33 y34) (y35 - (60 : Int32))) (va_cwS 4 hts gX4_quotient_X4_nearest rfl rfl rfl (by decide +kernel) ⟨Nat.le_of_ble_eq_true rfl, Nat.le_of_ble_eq_true rfl⟩) ⟨fun _ _ _ _ q => q, fun U hU hW => rfl⟩ rfl rfl hl.1 rfl (lv_room (Nat.le_of_ble_eq_true rfl)) dX4_quotient_193 ⟨Nat.le_of_ble_eq_true rfl, Nat.le_of_ble_eq_true rfl⟩) (fun r hr => ?_)
      subst hr
      exact W.lret hx hb hr (fun t ht hW => ⟨_, rfl, hJ.trans hE.symm, ht⟩) (fun q h => absurd h List.not_mem_nil) dX4_quotient_196
    · have c10 := (lg_cmp_eq _ _).mp c10
      rw [if_pos c10] at hJ
      refine lv_iload_n hx hb dX4_quotient_60 rfl (lv_at hl 3 rfl) ?_
      refine lv_iload hx hb dX4_quotient_61 (lv_at hl 2 rfl) ?_
      refine lv_lconst (v := (0 : Int64)) hx hb dX4_quotient_63 (by decide) ?_
      refine vp_callSl (W.runS (As := [.int a0, .int y5, .long (0 : Int64)]) (rest := []) ⟨hx, hb, hml, hown, hts⟩ (qX4_signed l a0 y5 (0 : Int64)) (va_cwS 3 hts gX4_quotient_X4_signed rfl rfl rfl (by decide +kernel) ⟨Nat.le_of_ble_eq_true rfl, Nat.le_of_ble_eq_true rfl⟩) ⟨fun _ _ _ _ q => q, fun U hU hW => rfl⟩ rfl rfl hl.1 rfl (lv_room (Nat.le_of_ble_eq_true rfl)) dX4_quotient_64 ⟨Nat.le_of_ble_eq_true rfl, Nat.le_of_ble_eq_true rfl⟩) (fun r hr => ?_)
      subst hr
      exact W.lret hx hb hr (fun t ht hW => ⟨_, rfl, hJ.trans hE.symm, ht⟩) (fun q h => absurd h List.not_mem_nil) dX4_quotient_67
def jX4_leftOver_L (y1 : Int64) (st : Int32) : Nat → Int32 → Int64 → Int64
  | 0, _, rs => rs
  | n + 1, ap, rs => if ap ≤ 0 then rs else jX4_leftOver_L y1 st n (ap - st) ((rs <<< ((if ap < st then ap else st).toInt64 &&& 63)) - (rs <<< ((if ap < st then ap else st).toInt64 &&& 63)) / y1 * y1)
theorem jX4_leftOver_L_le {y1 : Int64} {st : Int32} {n : Nat} {ap : Int32} {rs : Int64} (h : ap ≤ 0) : jX4_leftOver_L y1 st n ap rs = rs := by cases n with
  | zero => rfl
  | succ n => rw [jX4_leftOver_L, if_pos h]
theorem jX4_leftOver_L_succ {y1 : Int64} {st : Int32} {n : Nat} {ap : Int32} {rs : Int64} (h : ¬ ap ≤ 0) : jX4_leftOver_L y1 st (n + 1) ap rs = jX4_leftOver_L y1 st n (ap - st) ((rs <<< ((if ap < st then ap else st).toInt64 &&& 63)) - (rs <<< ((if ap < st then ap else st).toInt64 &&& 63)) / y1 * y1) := by rw [jX4_leftOver_L, if_neg h]
def jX4_leftOver_y7 (a0 : Int32) (a1 : Int64) (a3 : Int64) (rs : Int64) (y7 : Int32) : Int64 := (jX4_nearest a0 y7 rs (jX4_exponent a0 a3))
def jX4_leftOver_T (a0 : Int32) (a1 : Int64) (a3 : Int64) (rs : Int64) : Int64 := (jX4_leftOver_y7 a0 a1 a3 rs (if (0 : Int64) ≤ a1 then (0 : Int32) else (1 : Int32)))
def jX4_leftOver_y6 (a0 : Int32) (a1 : Int64) (a3 : Int64) (y1 : Int64) (y4 : Int64) (y5 : Int32) (y6 : Int32) : Int64 := (jX4_leftOver_T a0 a1 a3 (jX4_leftOver_L y1 y5 4096 y6 y4))
def jX4_leftOver_y5 (a0 : Int32) (a1 : Int64) (a3 : Int64) (y1 : Int64) (y4 : Int64) (y5 : Int32) : Int64 := (jX4_leftOver_y6 a0 a1 a3 y1 y4 y5 ((jX4_exponent a0 a1) - (jX4_exponent a0 a3)))
def jX4_leftOver_y4 (a0 : Int32) (a1 : Int64) (a3 : Int64) (y1 : Int64) (y4 : Int64) : Int64 := (jX4_leftOver_y5 a0 a1 a3 y1 y4 (if (10 : Int32) < ((jJ13_numberOfLeadingZeros_95d88 y1) - (1 : Int32)) then ((jJ13_numberOfLeadingZeros_95d88 y1) - (1 : Int32)) else (10 : Int32)))
def jX4_leftOver_y1 (a0 : Int32) (a1 : Int64) (a3 : Int64) (y1 : Int64) : Int64 := (if y1 = (0 : Int64) then a1 else (if (jX4_sizeOf a0 a3) ≤ (jX4_sizeOf a0 a1) then (jX4_leftOver_y4 a0 a1 a3 y1 ((jX4_mantissa a0 a1) - (jX4_mantissa a0 a1) / y1 * y1)) else a1))
def jX4_leftOver (a0 : Int32) (a1 : Int64) (a3 : Int64) : Int64 := (jX4_leftOver_y1 a0 a1 a3 (jX4_mantissa a0 a3))
set_option maxHeartbeats 4000000 in
set_option maxRecDepth 100000 in
theorem qX4_leftOver (l : Launch) (a0 : Int32) (a1 : Int64) (a3 : Int64) : Met l yX4_leftOver wsX4_leftOver ({ frames := 4, cells := 0, slots := 0, locals := 96 }) (fun v _ => v = ([.int a0, .long a1, .long a3] : List Value).toArray) (vp_Sl (fun r => r = jX4_leftOver a0 a1 a3)) 0 0 (fun _ => False) := by
  refine Met.ofW (cc := cX4_leftOver) (maxL := 11) (ret := some .long) (by decide) rfl ?_
  intro p e s m args below meth c s₁ B hml hv
  subst hv
  have hx := B.exec
  have hb := B.bytes
  have hr := B.returns
  have hts := atoms_spec (ws := wsX4_leftOver) B.pre
  have hown : s.vm.findClass RX4 = some m.cls := findClass_of_methodNamed B.named
  have hlocks := B.notSynchronized
  obtain ⟨JR, hE⟩ : ∃ q, jX4_leftOver a0 a1 a3 = q := ⟨_, rfl⟩
  have hJ := hE
  rw [jX4_leftOver] at hJ
  have hl := lv_entry ([.int a0, .long a1, .long a3]) (n := 11) (Nat.le_of_ble_eq_true rfl)
  rw [lg_entry_eq]
  generalize (lg_sl ([.int a0, .long a1, .long a3]) ++ List.replicate (11 - (lg_sl ([.int a0, .long a1, .long a3])).length) Slot.unset).toArray = ls at hl ⊢
  have hl : lv_has ls 11 [(0, .int a0), (1, .long a1), (3, .long a3)] := hl
  refine lv_iload_n hx hb dX4_leftOver_0 rfl (lv_at hl 0 rfl) ?_
  refine lv_lload_n hx hb dX4_leftOver_1 rfl (lv_at hl 2 rfl) ?_
  refine vp_callSl (W.runS (As := [.int a0, .long a3]) (rest := []) ⟨hx, hb, hml, hown, hts⟩ (qX4_mantissa l a0 a3) (va_cwS 2 hts gX4_leftOver_X4_mantissa rfl rfl rfl (by decide +kernel) ⟨Nat.le_of_ble_eq_true rfl, Nat.le_of_ble_eq_true rfl⟩) ⟨fun _ _ _ _ q => q, fun U hU hW => rfl⟩ rfl rfl hl.1 rfl (lv_room (Nat.le_of_ble_eq_true rfl)) dX4_leftOver_2 ⟨Nat.le_of_ble_eq_true rfl, Nat.le_of_ble_eq_true rfl⟩) (fun r hr => ?_)
  subst hr
  refine lv_topl (fun y1 ey1 => ?_)
  rw [← ey1] at hJ
  rw [jX4_leftOver_y1] at hJ
  refine lv_lstore (lv' := [(5, .long y1), (0, .int a0), (1, .long a1), (3, .long a3)]) hx hb dX4_leftOver_5 hl (by decide) rfl (fun ls hl => ?_)
  refine lv_lload hx hb dX4_leftOver_7 (lv_at hl 0 rfl) ?_
  refine lv_lconst (v := (0 : Int64)) hx hb dX4_leftOver_9 (by decide) ?_
  refine W.lcmp hx hb dX4_leftOver_10 ?_
  refine lv_if_eq (tgt := 28) hx hb dX4_leftOver_11 (by decide) (fun c2 => ?_) (fun c2 => ?_)
  · have c2 := (lg_cmp_eq _ _).mp c2
    rw [if_pos c2] at hJ
    refine lv_lload_n hx hb dX4_leftOver_28 rfl (lv_at hl 2 rfl) ?_
    exact W.lret hx hb hr (fun t ht hW => ⟨_, rfl, hJ.trans hE.symm, ht⟩) (fun q h => absurd h List.not_mem_nil) dX4_leftOver_29
  · have c2 := mt (lg_cmp_eq _ _).mpr c2
    rw [if_neg c2] at hJ
    refine lv_iload_n hx hb dX4_leftOver_14 rfl (lv_at hl 1 rfl) ?_
    refine lv_lload_n hx hb dX4_leftOver_15 rfl (lv_at hl 2 rfl) ?_
    refine vp_callSl (W.runS (As := [.int a0, .long a1]) (rest := []) ⟨hx, hb, hml, hown, hts⟩ (qX4_sizeOf l a0 a1) (va_cwS 2 hts gX4_leftOver_X4_sizeOf rfl rfl rfl (by decide +kernel) ⟨Nat.le_of_ble_eq_true rfl, Nat.le_of_ble_eq_true rfl⟩) ⟨fun _ _ _ _ q => q, fun U hU hW => rfl⟩ rfl rfl hl.1 rfl (lv_room (Nat.le_of_ble_eq_true rfl)) dX4_leftOver_16 ⟨Nat.le_of_ble_eq_true rfl, Nat.le_of_ble_eq_true rfl⟩) (fun r hr => ?_)
    subst hr
    refine lv_iload_n hx hb dX4_leftOver_19 rfl (lv_at hl 1 rfl) ?_
    refine lv_lload_n hx hb dX4_leftOver_20 rfl (lv_at hl 3 rfl) ?_
    refine vp_callSl (W.runS (As := [.int a0, .long a3]) (rest := [.long (jX4_sizeOf a0 a1)]) ⟨hx, hb, hml, hown, hts⟩ (qX4_sizeOf l a0 a3) (va_cwS 2 hts gX4_leftOver_X4_sizeOf rfl rfl rfl (by decide +kernel) ⟨Nat.le_of_ble_eq_true rfl, Nat.le_of_ble_eq_true rfl⟩) ⟨fun _ _ _ _ q => q, fun U hU hW => rfl⟩ rfl rfl hl.1 rfl (lv_room (Nat.le_of_ble_eq_true rfl)) dX4_leftOver_21 ⟨Nat.le_of_ble_eq_true rfl, Nat.le_of_ble_eq_true rfl⟩) (fun r hr => ?_)
    subst hr
    refine W.lcmp hx hb dX4_leftOver_24 ?_
    refine lv_if_ge (tgt := 30) hx hb dX4_leftOver_25 (by decide) (fun c3 => ?_) (fun c3 => ?_)
    · have c3 := (lg_cmp_ge _ _).mp c3
      rw [if_pos c3] at hJ
      refine lv_iload_n hx hb dX4_leftOver_30 rfl (lv_at hl 1 rfl) ?_
      refine lv_lload_n hx hb dX4_leftOver_31 rfl (lv_at hl 2 rfl) ?_
      refine vp_callSl (W.runS (As := [.int a0, .long a1]) (rest := []) ⟨hx, hb, hml, hown, hts⟩ (qX4_mantissa l a0 a1) (va_cwS 2 hts gX4_leftOver_X4_mantissa rfl rfl rfl (by decide +kernel) ⟨Nat.le_of_ble_eq_true rfl, Nat.le_of_ble_eq_true rfl⟩) ⟨fun _ _ _ _ q => q, fun U hU hW => rfl⟩ rfl rfl hl.1 rfl (lv_room (Nat.le_of_ble_eq_true rfl)) dX4_leftOver_32 ⟨Nat.le_of_ble_eq_true rfl, Nat.le_of_ble_eq_true rfl⟩) (fun r hr => ?_)
      subst hr
      refine lv_lload hx hb dX4_leftOver_35 (lv_at hl 0 rfl) ?_
      have hby : ¬ y1 = 0 := by assumption
      refine lv_lrem hx hb dX4_leftOver_37 hby ?_
      refine lv_topl (fun y4 ey4 => ?_)
      rw [← ey4] at hJ
      rw [jX4_leftOver_y4] at hJ
      refine lv_lstore (lv' := [(7, .long y4), (5, .long y1), (0, .int a0), (1, .long a1), (3, .long a3)]) hx hb dX4_leftOver_38 hl (by decide) rfl (fun ls hl => ?_)
      refine lv_bipush (v := (10 : Int32)) hx hb dX4_leftOver_40 (by decide) ?_
      refine lv_lload hx hb dX4_leftOver_42 (lv_at hl 1 rfl) ?_
      refine vp_callSi (W.runS (As := [.long y1]) (rest := [.int (10 : Int32)]) ⟨hx, hb, hml, hown, hts⟩ (qJ13_numberOfLeadingZeros_95d88 l y1) (va_cwS 1 hts gX4_leftOver_J13_numberOfLeadingZeros_95d88 rfl rfl rfl (by decide +kernel) ⟨Nat.le_of_ble_eq_true rfl, Nat.le_of_ble_eq_true rfl⟩) ⟨fun _ _ _ _ q => q, fun U hU hW => rfl⟩ rfl rfl hl.1 rfl (lv_room (Nat.le_of_ble_eq_true rfl)) dX4_leftOver_44 ⟨Nat.le_of_ble_eq_true rfl, Nat.le_of_ble_eq_true rfl⟩) (fun r hr => ?_)
      subst hr
      refine lv_iconst (v := (1 : Int32)) hx hb dX4_leftOver_47 (by decide) ?_
      refine lv_isub hx hb dX4_leftOver_48 ?_
      refine va_mmax hx hb (hml.trans hl.1.symm) hown (hts (.methodLink RX4 57 Lib.Math.max.name) (by decide +kernel)) (hts (.static Lib.Math.max.name) (by decide +kernel)) (hts (.initialized "java/lang/Math") (by decide +kernel)) (hts (.code Lib.Math.max.name Lib.Math.max.code 2 (some .int)) (by decide +kernel)) (Nat.le_of_ble_eq_true rfl) (Nat.le_of_ble_eq_true rfl) (Nat.zero_le _) (Nat.zero_le _) dX4_leftOver_49 ?_
      refine lv_topi (fun y5 ey5 => ?_)
      rw [← ey5] at hJ
      rw [jX4_leftOver_y5] at hJ
      refine lv_istore (lv' := [(9, .int y5), (7, .long y4), (5, .long y1), (0, .int a0), (1, .long a1), (3, .long a3)]) hx hb dX4_leftOver_52 hl (by decide) rfl (fun ls hl => ?_)
      refine lv_iload_n hx hb dX4_leftOver_54 rfl (lv_at hl 3 rfl) ?_
      refine lv_lload_n hx hb dX4_leftOver_55 rfl (lv_at hl 4 rfl) ?_
      refine vp_callSi (W.runS (As := [.int a0, .long a1]) (rest := []) ⟨hx, hb, hml, hown, hts⟩ (qX4_exponent l a0 a1) (va_cwS 2 hts gX4_leftOver_X4_exponent rfl rfl rfl (by decide +kernel) ⟨Nat.le_of_ble_eq_true rfl, Nat.le_of_ble_eq_true rfl⟩) ⟨fun _ _ _ _ q => q, fun U hU hW => rfl⟩ rfl rfl hl.1 rfl (lv_room (Nat.le_of_ble_eq_true rfl)) dX4_leftOver_56 ⟨Nat.le_of_ble_eq_true rfl, Nat.le_of_ble_eq_true rfl⟩) (fun r hr => ?_)
      subst hr
      refine lv_iload_n hx hb dX4_leftOver_59 rfl (lv_at hl 3 rfl) ?_
      refine lv_lload_n hx hb dX4_leftOver_60 rfl (lv_at hl 5 rfl) ?_
      refine vp_callSi (W.runS (As := [.int a0, .long a3]) (rest := [.int (jX4_exponent a0 a1)]) ⟨hx, hb, hml, hown, hts⟩ (qX4_exponent l a0 a3) (va_cwS 2 hts gX4_leftOver_X4_exponent rfl rfl rfl (by decide +kernel) ⟨Nat.le_of_ble_eq_true rfl, Nat.le_of_ble_eq_true rfl⟩) ⟨fun _ _ _ _ q => q, fun U hU hW => rfl⟩ rfl rfl hl.1 rfl (lv_room (Nat.le_of_ble_eq_true rfl)) dX4_leftOver_61 ⟨Nat.le_of_ble_eq_true rfl, Nat.le_of_ble_eq_true rfl⟩) (fun r hr => ?_)
      subst hr
      refine lv_isub hx hb dX4_leftOver_64 ?_
      refine lv_topi (fun y6 ey6 => ?_)
      rw [← ey6] at hJ
      rw [jX4_leftOver_y6] at hJ
      refine lv_istore (lv' := [(10, .int y6), (9, .int y5), (7, .long y4), (5, .long y1), (0, .int a0), (1, .long a1), (3, .long a3)]) hx hb dX4_leftOver_65 hl (by decide) rfl (fun ls hl => ?_)
      have hl := lv_sub (l' := [(10, .int y6), (7, .long y4), (9, .int y5), (5, .long y1), (0, .int a0), (1, .long a1), (3, .long a3)]) hl [0, 2, 1, 3, 4, 5, 6] rfl
      have hst : 10 ≤ y5.toInt ∧ y5.toInt ≤ 64 := by rw [ey5]; exact p_step _
      refine jn_loop (α := Int32 × Int64 × Array Slot) (P := fun q => F0 m 67 q.2.2 []) (I := fun n q => lv_has q.2.2 11 [(10, .int q.1), (7, .long q.2.1), (9, .int y5), (5, .long y1), (0, .int a0), (1, .long a1), (3, .long a3)] ∧ q.1.toInt ≤ (n : Int) ∧ jX4_leftOver_T a0 a1 a3 (jX4_leftOver_L y1 y5 n q.1 q.2.1) = JR) ?_ 4096 (y6, y4, ls) ⟨hl, by show y6.toInt ≤ _; rw [ey6]; exact p_apart _ _ _, hJ⟩
      intro n ⟨ap, rs, ls⟩ ⟨hl, hn, hJ⟩ ih
      have hl : lv_has ls 11 [(10, .int ap), (7, .long rs), (9, .int y5), (5, .long y1), (0, .int a0), (1, .long a1), (3, .long a3)] := hl
      have hn : ap.toInt ≤ (n : Int) := hn
      have hJ : jX4_leftOver_T a0 a1 a3 (jX4_leftOver_L y1 y5 n ap rs) = JR := hJ
      refine lv_iload hx hb dX4_leftOver_67 (lv_at hl 0 rfl) ?_
      refine lv_if_le (tgt := 97) hx hb dX4_leftOver_69 (by decide) (fun cl => ?_) (fun cl => ?_)
      · rw [jX4_leftOver_L_le cl] at hJ
        rw [jX4_leftOver_T] at hJ
        refine lv_iload_n hx hb dX4_leftOver_97 rfl (lv_at hl 4 rfl) ?_
        refine lv_lload_n hx hb dX4_leftOver_98 rfl (lv_at hl 5 rfl) ?_
        refine lv_lconst (v := (0 : Int64)) hx hb dX4_leftOver_99 (by decide) ?_
        refine W.lcmp hx hb dX4_leftOver_100 ?_
        refine jn_i (J := 109) (ls := ls) (v := (if (0 : Int64) ≤ a1 then (0 : Int32) else (1 : Int32))) (rest := [.int a0]) ?_ (fun y7 ey7 => ?_)
        · intro hj
          refine lv_if_ge (tgt := 108) hx hb dX4_leftOver_101 (by decide) (fun c8 => ?_) (fun c8 => ?_)
          · have c8 := (lg_cmp_ge _ _).mp c8
            rw [if_pos c8] at hj
            refine lv_iconst (v := (0 : Int32)) hx hb dX4_leftOver_108 (by decide) ?_
            exact hj
          · have c8 := mt (lg_cmp_ge _ _).mpr c8
            rw [if_neg c8] at hj
            refine lv_iconst (v := (1 : Int32)) hx hb dX4_leftOver_104 (by decide) ?_
            refine lv_goto (tgt := 109) hx hb dX4_leftOver_105 (by decide) ?_
            exact hj
        rw [← ey7] at hJ
        rw [jX4_leftOver_y7] at hJ
        refine lv_lload hx hb dX4_leftOver_109 (lv_at hl 1 rfl) ?_
        refine lv_iload_n hx hb dX4_leftOver_111 rfl (lv_at hl 4 rfl) ?_
        refine lv_lload_n hx hb dX4_leftOver_112 rfl (lv_at hl 6 rfl) ?_
        refine vp_callSi (W.runS (As := [.int a0, .long a3]) (rest := [.long rs, .int y7, .int a0]) ⟨hx, hb, hml, hown, hts⟩ (qX4_exponent l a0 a3) (va_cwS 2 hts gX4_leftOver_X4_exponent rfl rfl rfl (by decide +kernel) ⟨Nat.le_of_ble_eq_true rfl, Nat.le_of_ble_eq_true rfl⟩) ⟨fun _ _ _ _ q => q, fun U hU hW => rfl⟩ rfl rfl hl.1 rfl (lv_room (Nat.le_of_ble_eq_true rfl)) dX4_leftOver_113 ⟨Nat.le_of_ble_eq_true rfl, Nat.le_of_ble_eq_true rfl⟩) (fun r hr => ?_)
        subst hr
        refine vp_callSl (W.runS (As := [.int a0, .int y7, .long rs, .int (jX4_exponent a0 a3)]) (rest := []) ⟨hx, hb, hml, hown, hts⟩ (qX4_nearest l a0 y7 rs (jX4_exponent a0 a3)) (va_cwS 4 hts gX4_leftOver_X4_nearest rfl rfl rfl (by decide +kernel) ⟨Nat.le_of_ble_eq_true rfl, Nat.le_of_ble_eq_true rfl⟩) ⟨fun _ _ _ _ q => q, fun U hU hW => rfl⟩ rfl rfl hl.1 rfl (lv_room (Nat.le_of_ble_eq_true rfl)) dX4_leftOver_116 ⟨Nat.le_of_ble_eq_true rfl, Nat.le_of_ble_eq_true rfl⟩) (fun r hr => ?_)
        subst hr
        exact W.lret hx hb hr (fun t ht hW => ⟨_, rfl, hJ.trans hE.symm, ht⟩) (fun q h => absurd h List.not_mem_nil) dX4_leftOver_119
      · obtain ⟨n, rfl⟩ : ∃ k, n = k + 1 := by
            rw [Int32.le_iff_toInt_le] at cl
            have h0 : (0 : Int32).toInt = 0 := rfl
            exact ⟨n - 1, by omega⟩
        rw [jX4_leftOver_L_succ cl] at hJ
        refine lv_lload hx hb dX4_leftOver_72 (lv_at hl 1 rfl) ?_
        refine lv_iload hx hb dX4_leftOver_74 (lv_at hl 2 rfl) ?_
        refine lv_iload hx hb dX4_leftOver_76 (lv_at hl 0 rfl) ?_
        refine va_mmin hx hb (hml.trans hl.1.symm) hown (hts (.methodLink RX4 61 Lib.Math.min.name) (by decide +kernel)) (hts (.static Lib.Math.min.name) (by decide +kernel)) (hts (.initialized "java/lang/Math") (by decide +kernel)) (hts (.code Lib.Math.min.name Lib.Math.min.code 2 (some .int)) (by decide +kernel)) (Nat.le_of_ble_eq_true rfl) (Nat.le_of_ble_eq_true rfl) (Nat.zero_le _) (Nat.zero_le _) dX4_leftOver_78 ?_
        refine lv_lshl (v := (rs <<< ((if ap < y5 then ap else y5).toInt64 &&& 63))) hx hb dX4_leftOver_81 rfl ?_
        refine lv_lload hx hb dX4_leftOver_82 (lv_at hl 3 rfl) ?_
        refine lv_lrem hx hb dX4_leftOver_84 hby ?_
        refine lv_lstore (lv' := [(7, .long ((rs <<< ((if ap < y5 then ap else y5).toInt64 &&& 63)) - (rs <<< ((if ap < y5 then ap else y5).toInt64 &&& 63)) / y1 * y1)), (10, .int ap), (9, .int y5), (5, .long y1), (0, .int a0), (1, .long a1), (3, .long a3)]) hx hb dX4_leftOver_85 hl (by decide) rfl (fun ls hl => ?_)
        refine lv_iload hx hb dX4_leftOver_87 (lv_at hl 1 rfl) ?_
        refine lv_iload hx hb dX4_leftOver_89 (lv_at hl 2 rfl) ?_
        refine lv_isub hx hb dX4_leftOver_91 ?_
        refine lv_istore (lv' := [(10, .int (ap - y5)), (7, .long ((rs <<< ((if ap < y5 then ap else y5).toInt64 &&& 63)) - (rs <<< ((if ap < y5 then ap else y5).toInt64 &&& 63)) / y1 * y1)), (9, .int y5), (5, .long y1), (0, .int a0), (1, .long a1), (3, .long a3)]) hx hb dX4_leftOver_92 hl (by decide) rfl (fun ls hl => ?_)
        refine lv_goto (tgt := 67) hx hb dX4_leftOver_94 (by decide) ?_
        exact ih n (_, _, ls) rfl ⟨lv_sub hl [0, 1, 2, 3, 4, 5, 6] rfl, p_dec cl hn hst.1 hst.2, hJ⟩
    · have c3 := mt (lg_cmp_ge _ _).mpr c3
      rw [if_neg c3] at hJ
      refine lv_lload_n hx hb dX4_leftOver_28 rfl (lv_at hl 2 rfl) ?_
      exact W.lret hx hb hr (fun t ht hW => ⟨_, rfl, hJ.trans hE.symm, ht⟩) (fun q h => absurd h List.not_mem_nil) dX4_leftOver_29
end
section
/-! rounding: the odd neighbour of a ratio rounds as the ratio itself -/
theorem rd_near {A B O k : Nat} (hB : 0 < B) (hk : 2 ≤ k) (ho : O % 2 = 1) (h1 : B * (O - 1) < A) (h2 : A < B * (O + 1)) :
    Jvm.FP.Core.nearest A (B * 2 ^ k) = Jvm.FP.Core.nearest O (2 ^ k) := by
  obtain ⟨j, rfl⟩ : ∃ j, k = j + 2 := ⟨k - 2, by omega⟩
  have hD : 2 ^ (j + 2) = 4 * 2 ^ j := by rw [Nat.pow_add]; omega
  have hpos := Nat.two_pow_pos j
  rw [hD]
  generalize 2 ^ j = g at hpos ⊢
  have hO := Nat.div_add_mod O (4 * g)
  have hr := Nat.mod_lt O (show 0 < 4 * g by omega)
  have hOd : O / (4 * g) = O / (4 * g) := rfl
  unfold Jvm.FP.Core.nearest
  generalize O / (4 * g) = c at hO ⊢
  generalize O % (4 * g) = r at hO hr ⊢
  have hO' : 4 * (g * c) + r = O := by rw [← Nat.mul_assoc]; exact hO
  have hrodd : r % 2 = 1 := by omega
  have hle : B * (4 * (g * c)) ≤ B * (O - 1) := Nat.mul_le_mul_left B (by omega)
  obtain ⟨r', hr'⟩ : ∃ r', A = B * (4 * (g * c)) + r' := ⟨A - B * (4 * (g * c)), by omega⟩
  have e1 : B * (O - 1) = B * (4 * (g * c)) + B * (r - 1) := by rw [← Nat.mul_add]; congr 1; omega
  have e2 : B * (O + 1) = B * (4 * (g * c)) + B * (r + 1) := by rw [← Nat.mul_add]; congr 1; omega
  have g1 : B * (r - 1) < r' := by omega
  have g2 : r' < B * (r + 1) := by omega
  have hA : A = B * (4 * g) * c + r' := by rw [hr']; congr 1; ac_rfl
  have hBD : 0 < B * (4 * g) := Nat.mul_pos hB (by omega)
  have hlt : r' < B * (4 * g) := Nat.lt_of_lt_of_le g2 (Nat.mul_le_mul_left B (by omega))
  have hdiv : A / (B * (4 * g)) = c := by rw [hA, Nat.mul_add_div hBD, Nat.div_eq_of_lt hlt]; rfl
  have hmod : A % (B * (4 * g)) = r' := by rw [hA, Nat.mul_add_mod, Nat.mod_eq_of_lt hlt]
  rw [hdiv, hmod]
  have e3 : B * (4 * g) = 2 * (B * (2 * g)) := by rw [show 4 * g = 2 * (2 * g) by omega]; ac_rfl
  rcases Nat.lt_or_ge r (2 * g) with q | q
  · have w : r' < B * (2 * g) := Nat.lt_of_lt_of_le g2 (Nat.mul_le_mul_left B (by omega))
    rw [if_pos (by omega), if_pos (by omega)]
  · have w : B * (2 * g) < r' := Nat.lt_of_le_of_lt (Nat.mul_le_mul_left B (by omega)) g1
    rw [if_neg (by omega), if_pos (by omega), if_neg (by omega), if_pos (by omega)]
theorem rd_below1 (O : Nat) (a : Nat) : Jvm.FP.Core.Below O 1 (a : Int) ↔ O < 2 ^ a := by
  unfold Jvm.FP.Core.Below
  rw [show (-(a : Int)).toNat = 0 by omega, show ((a : Int)).toNat = a by omega]
  simp
theorem rd_belowB (A B : Nat) (a : Nat) : Jvm.FP.Core.Below A B (a : Int) ↔ A < B * 2 ^ a := by
  unfold Jvm.FP.Core.Below
  rw [show (-(a : Int)).toNat = 0 by omega, show ((a : Int)).toNat = a by omega]
  simp
theorem rd_odd {f : Jvm.FP.Core.Fmt} (s : Bool) {A B O : Nat} (e : Int) (hB : 0 < B) (ho : O % 2 = 1) (h1 : B * (O - 1) < A) (h2 : A < B * (O + 1)) (hbig : 2 ^ (f.p + 1) ≤ O) :
    Jvm.FP.Core.roundRatio f s A B e = Jvm.FP.Core.roundRatio f s O 1 e := by
  have hA : 0 < A := by omega
  have hO : 0 < O := by omega
  have hlead : (f.p : Int) + 1 < Jvm.FP.Core.leading O 1 + 1 := by
    refine Jvm.FP.Core.lt_of_below ?_ (Jvm.FP.Core.leading_spec hO (Nat.one_pos)).2
    rw [show (f.p : Int) + 1 = ((f.p + 1 : Nat) : Int) by omega, rd_below1]
    omega
  have hq2 : e + 2 ≤ Jvm.FP.Core.quantum f O 1 e := by unfold Jvm.FP.Core.quantum; omega
  have hqb := Jvm.FP.Core.quantum_below (f := f) hO Nat.one_pos e
  have hqn := Jvm.FP.Core.quantum_not_below (f := f) hO Nat.one_pos e
  have hqg := Jvm.FP.Core.quantum_ge f O 1 e
  have hq : Jvm.FP.Core.quantum f A B e = Jvm.FP.Core.quantum f O 1 e := by
    generalize Jvm.FP.Core.quantum f O 1 e = q at hq2 hqb hqn hqg ⊢
    obtain ⟨k, hk⟩ : ∃ k : Nat, q - e = (k : Int) + 2 := ⟨(q - e - 2).toNat, by omega⟩
    refine Jvm.FP.Core.quantum_eq hA hB hqg ?_ ?_
    · rw [show q - e + (f.p : Int) = ((k + 1 + f.p + 1 : Nat) : Int) by omega] at hqb ⊢
      rw [rd_below1] at hqb
      rw [rd_belowB]
      have hev : 2 ^ (k + 1 + f.p + 1) = 2 * 2 ^ (k + 1 + f.p) := by rw [Nat.pow_succ]; omega
      refine Nat.lt_of_lt_of_le h2 (Nat.mul_le_mul_left B (by omega))
    · rcases hqn with w | w
      · exact Or.inl w
      · refine Or.inr (fun hb => w ?_)
        rcases Nat.eq_zero_or_pos (k + 2 + f.p) with z | z
        · omega
        · rw [show q - e + ((f.p : Int) - 1) = ((k + f.p + 1 : Nat) : Int) by omega] at hb ⊢
          rw [rd_belowB] at hb
          rw [rd_below1]
          have hev : 2 ^ (k + f.p + 1) = 2 * 2 ^ (k + f.p) := by rw [Nat.pow_succ]; omega
          rcases Nat.lt_or_ge O (2 ^ (k + f.p + 1)) with u | u
          · exact u
          · exact absurd (Nat.lt_trans h1 hb) (Nat.not_lt.mpr (Nat.mul_le_mul_left B (by omega)))
  unfold Jvm.FP.Core.roundRatio
  rw [if_neg (by omega), if_neg (by omega), hq]
  generalize Jvm.FP.Core.quantum f O 1 e = q at hq2
  unfold Jvm.FP.Core.roundAt Jvm.FP.Core.unitsNum Jvm.FP.Core.unitsDen
  obtain ⟨k, hk⟩ : ∃ k : Nat, q = e + (k : Int) + 2 := ⟨(q - e - 2).toNat, by omega⟩
  rw [show (e - q).toNat = 0 by omega, show (q - e).toNat = k + 2 by omega, Nat.pow_zero, Nat.mul_one, Nat.mul_one, Nat.one_mul]
  rw [rd_near hB (by omega) ho h1 h2]
theorem rd_lead {n : Nat} (hn : n ≠ 0) : Jvm.FP.Core.leading n 1 = (n.log2 : Int) := by
  unfold Jvm.FP.Core.leading
  have h := Nat.log2_self_le hn
  have e1 : Nat.log2 1 = 0 := by decide
  simp only [e1]
  rw [show ((n.log2 : Int) - ((0 : Nat) : Int)) = (n.log2 : Int) by omega, show ((n.log2 : Int)).toNat = n.log2 by omega, show (-(n.log2 : Int)).toNat = 0 by omega, if_pos (by simpa using h)]
/-- the bits of a rounded number -/
theorem rd_enc {f : Jvm.FP.Core.Fmt} (hf : Jvm.FP.Core.Good f) (s : Bool) {n : Nat} (hn : n ≠ 0) (e : Int) {q : Int} (hq : q = Jvm.FP.Core.quantum f n 1 e) :
    Jvm.FP.Core.encode f (Jvm.FP.Core.roundRatio f s n 1 e) = s.toNat * Jvm.FP.Core.half f + (if f.qmax < q then Jvm.FP.Core.infBits f else (q - f.qmin).toNat * f.tails + Jvm.FP.Core.nearest (Jvm.FP.Core.unitsNum n e q) (Jvm.FP.Core.unitsDen 1 e q)) := by
  have hn' : 0 < n := by omega
  have hc := Jvm.FP.Core.nearest_units_le (f := f) hn' Nat.one_pos e
  have hlow : Jvm.FP.Core.quantum f n 1 e = f.qmin ∨ f.tails ≤ Jvm.FP.Core.nearest (Jvm.FP.Core.unitsNum n e (Jvm.FP.Core.quantum f n 1 e)) (Jvm.FP.Core.unitsDen 1 e (Jvm.FP.Core.quantum f n 1 e)) := by
    rcases Jvm.FP.Core.quantum_not_below (f := f) hn' Nat.one_pos e with h2 | h2
    · exact Or.inl h2
    · refine Or.inr (Jvm.FP.Core.nearest_ge (Jvm.FP.Core.unitsDen_pos Nat.one_pos ..) ?_)
      rw [show (f.p : Int) - 1 = ((f.p - 1 : Nat) : Int) by have := hf.2; omega, ← Jvm.FP.Core.units_below] at h2
      exact Nat.le_of_not_lt h2
  have hg := Jvm.FP.Core.quantum_ge f n 1 e
  rw [← hq] at hc hlow hg
  unfold Jvm.FP.Core.roundRatio
  rw [if_neg hn, ← hq]
  unfold Jvm.FP.Core.roundAt
  generalize Jvm.FP.Core.nearest (Jvm.FP.Core.unitsNum n e q) (Jvm.FP.Core.unitsDen 1 e q) = c at hc hlow ⊢
  have h1 := Jvm.FP.Core.two_tails hf
  have h2 := Jvm.FP.Core.tails_two hf
  have h3 := Jvm.FP.Core.qmax_qmin f
  have h4 := Jvm.FP.Core.emax_exps hf
  have h5 := Jvm.FP.Core.emax_pos hf
  have hinf : Jvm.FP.Core.encode f (.inf s) = s.toNat * Jvm.FP.Core.half f + Jvm.FP.Core.infBits f := by
    unfold Jvm.FP.Core.encode Jvm.FP.Core.assemble Jvm.FP.Core.half Jvm.FP.Core.infBits
    dsimp only
    rw [Nat.add_zero, Nat.add_mul, Nat.mul_assoc]
  unfold Jvm.FP.Core.settle Jvm.FP.Core.bound
  by_cases h : f.qmax < q
  · rw [if_pos h]
    by_cases g : c < 2 ^ f.p
    · rw [if_pos g, if_neg (by omega)]; exact hinf
    · rw [if_neg g, if_neg (by omega)]; exact hinf
  · rw [if_neg h]
    by_cases g : c < 2 ^ f.p
    · rw [if_pos g, if_pos (by omega)]
      unfold Jvm.FP.Core.encode
      by_cases k : c < f.tails
      · dsimp only
        rw [if_pos k]
        have : q = f.qmin := by omega
        subst this
        rw [Int.sub_self]
        unfold Jvm.FP.Core.assemble Jvm.FP.Core.half
        rw [Nat.add_zero, Nat.mul_assoc, Int.toNat_zero, Nat.zero_mul, Nat.zero_add]
      · dsimp only
        rw [if_neg k]
        unfold Jvm.FP.Core.assemble Jvm.FP.Core.half
        rw [Nat.add_mul, Nat.add_mul, Nat.mul_assoc, Nat.one_mul]
        omega
    · have hce : c = 2 * f.tails := by omega
      rw [if_neg g]
      by_cases k : q + 1 ≤ f.qmax
      · rw [if_pos k]
        unfold Jvm.FP.Core.encode
        dsimp only
        rw [if_neg (Nat.lt_irrefl _)]
        unfold Jvm.FP.Core.assemble Jvm.FP.Core.half
        rw [Nat.add_mul, Nat.add_mul, Nat.mul_assoc, Nat.one_mul, show (q + 1 - f.qmin).toNat = (q - f.qmin).toNat + 1 by omega, Nat.add_mul]
        omega
      · rw [if_neg k, hinf]
        unfold Jvm.FP.Core.infBits
        rw [show f.exps - 1 = (q - f.qmin).toNat + 2 by omega, Nat.add_mul]
        omega
end
section
/-! the bits of a float or double, as the class keeps them in a long -/
def xb (a0 : Int32) (N : Nat) : Int64 := if a0 = 0 then (nI N).toInt64 else lN N
theorem nI_hi {N : Nat} (h1 : 2147483648 ≤ N) (h2 : N < 4294967296) : (nI N).toInt64 = lN (N + 18446744069414584320) := by
  apply Int64.toInt_inj.mp
  rw [Int32.toInt_toInt64]
  show (nI N).toBitVec.toInt = (lN (N + 18446744069414584320)).toBitVec.toInt
  rw [BitVec.toInt_eq_toNat_cond, BitVec.toInt_eq_toNat_cond, pk_tn (by omega), wb_tn (by omega), if_neg (by omega), if_neg (by omega)]
  omega
theorem nI_lo {N : Nat} (h1 : N < 2147483648) : (nI N).toInt64 = lN N := nI_l (by omega)
theorem xb_lN (a0 : Int32) {N : Nat} (h : N < 2 * 2 ^ hN a0) : ∃ n, n < 2 ^ 64 ∧ xb a0 N = lN n ∧ n % 2 ^ hN a0 = N % 2 ^ hN a0 ∧ (n < 9223372036854775808 ↔ N < 2 ^ hN a0) := by
  unfold xb hN at *
  by_cases ha : a0 = 0
  · rw [if_pos ha] at *
    rw [if_pos ha]
    have h' : N < 4294967296 := by omega
    by_cases h1 : N < 2147483648
    · exact ⟨N, by omega, nI_lo h1, rfl, by omega⟩
    · exact ⟨_, by omega, nI_hi (by omega) h', by omega, by omega⟩
  · rw [if_neg ha] at *
    rw [if_neg ha]
    exact ⟨N, by omega, rfl, rfl, by omega⟩
theorem f_p (a0 : Int32) : (fF a0).p = wN a0 + 1 := by unfold fF wN; split <;> rfl
theorem f_tails (a0 : Int32) : (fF a0).tails = 2 ^ wN a0 := by unfold fF wN; split <;> rfl
theorem f_exps (a0 : Int32) : (fF a0).exps = 2 ^ (hN a0 - wN a0) := by unfold fF wN hN; split <;> rfl
theorem f_qmin (a0 : Int32) : (fF a0).qmin = qN a0 := by unfold fF qN; split <;> decide
theorem f_half (a0 : Int32) : Jvm.FP.Core.half (fF a0) = 2 ^ hN a0 := by unfold fF hN; split <;> decide
theorem f_good (a0 : Int32) : Jvm.FP.Core.Good (fF a0) := by unfold fF; split; exact Jvm.FP.Core.good_b32; exact Jvm.FP.Core.good_b64
theorem f_size (a0 : Int32) : 2 * (fF a0).exps * (fF a0).tails = 2 * 2 ^ hN a0 := by rw [Nat.mul_assoc]; congr 1; exact f_half a0
theorem f_hw (a0 : Int32) : 2 ^ (hN a0 - wN a0) * 2 ^ wN a0 = 2 ^ hN a0 := by rw [← Nat.pow_add]; congr 1; have := wh_b a0; omega
theorem f_inf (a0 : Int32) : Jvm.FP.Core.infBits (fF a0) = (2 ^ (hN a0 - wN a0) - 1) * 2 ^ wN a0 := by
  unfold Jvm.FP.Core.infBits; rw [f_exps, f_tails]
theorem p_e8 (a0 : Int32) : 256 ≤ 2 ^ (hN a0 - wN a0) ∧ 2 ^ (hN a0 - wN a0) ≤ 2048 := by unfold hN wN; split <;> decide
theorem f_qmax (a0 : Int32) : (fF a0).qmax - (fF a0).qmin = (2 ^ (hN a0 - wN a0) : Nat) - 3 := by
  have h1 := Jvm.FP.Core.qmax_qmin (fF a0)
  have h2 := Jvm.FP.Core.emax_exps (f_good a0)
  rw [f_exps] at h2
  omega
theorem p_or {i a b : Nat} (hb : b < 2 ^ i) (h : 2 ^ i * a + b < 2 ^ 64) : lN b ||| lN (2 ^ i * a) = lN (2 ^ i * a + b) := by
  rw [wb_or (by omega) (by omega), Nat.or_comm, ← Nat.two_pow_add_eq_or_of_lt hb]
theorem r_signed (a0 neg : Int32) {z : Nat} (hz : z < 2 ^ hN a0) : jX4_signed a0 neg (lN z) = xb a0 ((if neg = 0 then 0 else 2 ^ hN a0) + z) := by
  unfold jX4_signed jX4_signed_y1 xb
  unfold hN at *
  by_cases ha : a0 = 0
  · rw [if_pos ha] at hz
    rw [if_pos ha, if_pos ha, if_pos ha]
    by_cases hn : neg = 0
    · rw [if_pos hn, if_pos hn, Nat.zero_add, nI_lo (by omega)]
    · rw [if_neg hn, if_neg hn, nI_hi (by omega) (by omega)]
      have e := p_or (i := 31) (a := 8589934591) (b := z) hz (by omega)
      rw [show 2 ^ 31 + z + 18446744069414584320 = 2 ^ 31 * 8589934591 + z by omega]
      exact e
  · rw [if_neg ha] at hz
    rw [if_neg ha, if_neg ha, if_neg ha]
    by_cases hn : neg = 0
    · rw [if_pos hn, if_pos hn, Nat.zero_add]
    · rw [if_neg hn, if_neg hn]
      have e := p_or (i := 63) (a := 1) (b := z) hz (by omega)
      rw [Nat.mul_one] at e
      exact e
theorem r_round {W k : Nat} (hW : W < 2 ^ 64) (h1 : 1 ≤ k) (h2 : k ≤ 63) : jX4_rounded (lN W) (nI k) = lN (Jvm.FP.Core.nearest W (2 ^ k)) := by
  have hp : 2 ^ k = 2 * 2 ^ (k - 1) := by rw [← Nat.pow_succ']; congr 1; omega
  have hpos := Nat.two_pow_pos (k - 1)
  have hle : 2 ^ k ≤ 9223372036854775808 := Nat.le_trans (Nat.pow_le_pow_right (by decide) h2) (by decide)
  have hm := Nat.mod_lt W (Nat.two_pow_pos k)
  have hd := Nat.div_le_self W (2 ^ k)
  have hd2 : W / 2 ^ k < 9223372036854775808 := by
    rw [Nat.div_lt_iff_lt_mul (Nat.two_pow_pos k)]
    have := Nat.mul_le_mul_left 9223372036854775808 (show 2 ≤ 2 ^ k by omega)
    omega
  unfold jX4_rounded jX4_rounded_y3 jX4_rounded_y4 jX4_rounded_y5 jX4_rounded_y6 Jvm.FP.Core.nearest
  have c1 : (0 : Int32) < nI k := nI_lt (a := 0) (by omega) (by omega)
  have c2 : nI k ≤ (63 : Int32) := nI_le (b := 63) h2 (by decide)
  have e1 : nI k - (1 : Int32) = nI (k - 1) := pk_sub h1
  rw [if_pos c1, if_pos c2, wb_shr hW (by omega), p_one k (by omega), p_ones, wb_mask hW (by omega), e1, p_one (k - 1) (by omega)]
  generalize W / 2 ^ k = q at *
  generalize W % 2 ^ k = r at *
  rw [hp] at *
  generalize 2 ^ (k - 1) = g at *
  have ea : lN q &&& (1 : Int64) = lN (q % 2) := wb_a1 (by omega)
  rw [ea]
  have ez : (lN (q % 2) = (0 : Int64)) ↔ q % 2 = 0 := l_eq (b := 0) (by omega) (by decide)
  have e10 : ¬ ((1 : Int32) = 0) := by decide
  by_cases d1 : 2 * r < 2 * g
  · rw [if_neg (show ¬ lN g < lN r by rw [l_lt (by omega) (by omega)]; omega), if_neg (show ¬ lN r = lN g by rw [l_eq (by omega) (by omega)]; omega), if_pos rfl, if_pos d1]
  · rw [if_neg d1]
    by_cases d2 : 2 * g < 2 * r
    · rw [if_pos (show lN g < lN r by rw [l_lt (by omega) (by omega)]; omega), if_neg e10, if_pos d2, lN_1]
    · rw [if_neg d2, if_neg (show ¬ lN g < lN r by rw [l_lt (by omega) (by omega)]; omega), if_pos (show lN r = lN g by rw [l_eq (by omega) (by omega)]; omega)]
      by_cases d3 : q % 2 = 0
      · rw [if_pos (ez.mpr d3), if_pos rfl, d3, Nat.add_zero]
      · rw [if_neg (fun w => d3 (ez.mp w)), if_neg e10, lN_1, show q % 2 = 1 by omega]
theorem r_round_up {W j : Nat} (h : j < 64) : jX4_rounded (lN W) (iI (-(j : Int))) = lN (W * 2 ^ j) := by
  unfold jX4_rounded
  have c1 : ¬ (0 : Int32) < iI (-(j : Int)) := by
    rw [show (0 : Int32) = iI 0 by decide, iI_lt (by omega) (by omega) (by omega) (by omega)]
    omega
  rw [if_neg c1, iI_neg, show -(-(j : Int)) = (j : Int) by omega, ← iI_n, wb_shl W h]
theorem r_round_0 {W : Nat} {z : Int} (h : 64 ≤ z) (h2 : z < 100000) : jX4_rounded (lN W) (iI z) = lN 0 := by
  unfold jX4_rounded
  have c1 : (0 : Int32) < iI z := by
    rw [show (0 : Int32) = iI 0 by decide, iI_lt (by omega) (by omega) (by omega) (by omega)]
    omega
  have c2 : ¬ iI z ≤ (63 : Int32) := by
    rw [show (63 : Int32) = iI 63 by decide, iI_le (by omega) (by omega) (by omega) (by omega)]
    omega
  rw [if_pos c1, if_neg c2]
  rfl
theorem near_0 {W k : Nat} (h : 2 * W ≤ 2 ^ k) (hk : 1 ≤ k) : Jvm.FP.Core.nearest W (2 ^ k) = 0 := by
  have hp : 2 ^ k = 2 * 2 ^ (k - 1) := by rw [← Nat.pow_succ']; congr 1; omega
  have hpos := Nat.two_pow_pos (k - 1)
  have hlt : W < 2 ^ k := by omega
  unfold Jvm.FP.Core.nearest
  rw [Nat.mod_eq_of_lt hlt, Nat.div_eq_of_lt hlt]
  split
  · rfl
  · rw [if_neg (by omega)]
/-- rounding at q, as the class does it -/
theorem r_rounded {W : Nat} {e q : Int} (hW : W < 2 ^ 64) (h1 : -64 < q - e) (h2 : q - e < 100000) (hs : q - e < 64 ∨ W ≤ 9223372036854775808) : jX4_rounded (lN W) (iI (q - e)) = lN (Jvm.FP.Core.nearest (Jvm.FP.Core.unitsNum W e q) (Jvm.FP.Core.unitsDen 1 e q)) := by
  unfold Jvm.FP.Core.unitsNum Jvm.FP.Core.unitsDen
  rcases Int.lt_or_le 0 (q - e) with h | h
  · obtain ⟨k, hk⟩ : ∃ k : Nat, q - e = (k : Int) := ⟨(q - e).toNat, by omega⟩
    rw [show (e - q).toNat = 0 by omega, show (q - e).toNat = k by omega, hk, Nat.pow_zero, Nat.mul_one, Nat.one_mul]
    rcases Nat.lt_or_ge k 64 with g | g
    · rw [← iI_n]
      exact r_round hW (by omega) (by omega)
    · rw [r_round_0 (by omega) (by omega), near_0 ?_ (by omega)]
      have hp : 2 ^ 64 ≤ 2 ^ k := Nat.pow_le_pow_right (by decide) g
      omega
  · obtain ⟨k, hk⟩ : ∃ k : Nat, e - q = (k : Int) := ⟨(e - q).toNat, by omega⟩
    rw [show (e - q).toNat = k by omega, show (q - e).toNat = 0 by omega, show q - e = -(k : Int) by omega, r_round_up (by omega), Nat.pow_zero, Nat.mul_one]
    congr 1
    have := Jvm.FP.Core.nearest_exact (B := 1) (W * 2 ^ k) Nat.one_pos
    rw [Nat.mul_one] at this
    exact this.symm
end
section
def sg (neg : Int32) : Bool := decide (¬ neg = 0)
theorem inf_lt (a0 : Int32) : (2 ^ (hN a0 - wN a0) - 1) * 2 ^ wN a0 < 2 ^ hN a0 := by
  have h1 := f_hw a0
  have h2 := Nat.two_pow_pos (wN a0)
  have h3 := p_e8 a0
  rw [Nat.sub_mul, h1]
  have := Nat.two_pow_pos (hN a0)
  omega
set_option maxHeartbeats 1000000 in
/-- nearest: the number nearest to W * 2^e, its bits -/
theorem r_near (a0 neg : Int32) {W : Nat} {e : Int} (hW : W < 2 ^ 64) (he : -5000 ≤ e) (he2 : e ≤ 5000) (hs : W ≤ 9223372036854775808 ∨ qN a0 ≤ e) : jX4_nearest a0 neg (lN W) (iI e) = xb a0 (Jvm.FP.Core.encode (fF a0) (Jvm.FP.Core.roundRatio (fF a0) (sg neg) W 1 e)) := by
  obtain ⟨w1, w2, w3, w4, w5, w6⟩ := wh_b a0
  have hq := q_b a0
  have he8 := p_e8 a0
  have hinf := inf_lt a0
  have hhb := p_hb a0
  have hsg : (if neg = 0 then 0 else 2 ^ hN a0) = (sg neg).toNat * Jvm.FP.Core.half (fF a0) := by
    unfold sg
    by_cases h : neg = 0 <;> simp [h, f_half]
  unfold jX4_nearest
  by_cases h0 : W = 0
  · subst h0
    rw [if_pos (show lN 0 = (0 : Int64) from rfl)]
    have := r_signed a0 neg (z := 0) (Nat.two_pow_pos _)
    rw [show (0 : Int64) = lN 0 from rfl, this, Nat.add_zero, hsg]
    congr 1
    unfold Jvm.FP.Core.roundRatio
    rw [if_pos rfl]
    unfold Jvm.FP.Core.encode
    dsimp only
    rw [if_pos (Jvm.FP.Core.tails_pos _)]
    unfold Jvm.FP.Core.assemble Jvm.FP.Core.half
    rw [Nat.add_zero, Nat.add_zero, Nat.mul_assoc]
  · rw [if_neg (show ¬ lN W = (0 : Int64) from fun q => h0 ((l_eq (b := 0) hW (by decide)).mp q))]
    unfold jX4_nearest_y2 jX4_nearest_y3 jX4_nearest_y4 jX4_nearest_y5 jX4_nearest_y7
    have hb64 := bN_64 hW
    obtain ⟨b1, b2, b3⟩ := bN_spec h0
    rw [r_least, r_len hW, r_width, r_endless]
    have e1 : ((iI e + nI (bN W)) - (1 : Int32)) - nI (wN a0) = iI (e + bN W - 1 - wN a0) := by
      rw [iI_n, iI_n, show (1 : Int32) = iI 1 by decide, iI_add, iI_sub, iI_sub]
    rw [e1]
    obtain ⟨q, hqd⟩ : ∃ q : Int, q = max (qN a0) (e + bN W - 1 - wN a0) := ⟨_, rfl⟩
    have e2 : (if iI (e + bN W - 1 - wN a0) < iI (qN a0) then iI (qN a0) else iI (e + bN W - 1 - wN a0)) = iI q := by
      split
      · rename_i h
        rw [iI_lt (by omega) (by omega) (by omega) (by omega)] at h
        congr 1; omega
      · rename_i h
        rw [iI_lt (by omega) (by omega) (by omega) (by omega)] at h
        congr 1; omega
    rw [e2]
    have hquant : q = Jvm.FP.Core.quantum (fF a0) W 1 e := by
      unfold Jvm.FP.Core.quantum
      rw [rd_lead h0, f_p, f_qmin, hqd]
      unfold bN
      rw [if_neg h0]
      congr 1
      omega
    obtain ⟨F, hF⟩ : ∃ F : Nat, q - qN a0 = (F : Int) := ⟨(q - qN a0).toNat, by omega⟩
    have e3 : (iI q - iI (qN a0)).toInt64 = lN F := by rw [iI_sub, hF, ← iI_n, nI_l (by omega)]
    have e4 : ((lN ((2 ^ (hN a0 - wN a0) - 1) * 2 ^ wN a0)).toUInt64 >>> ((nI (wN a0)).toInt64.toUInt64 &&& Int64.toUInt64 63)).toInt64 = lN (2 ^ (hN a0 - wN a0) - 1) := by
      rw [wb_shr (by omega) w1, Nat.mul_div_cancel _ (Nat.two_pow_pos _)]
    rw [e3, e4, lN_1, rd_enc (f_good a0) (sg neg) h0 e hquant]
    have hqm := f_qmax a0
    have hqi := f_qmin a0
    by_cases hc : F + 1 < 2 ^ (hN a0 - wN a0) - 1
    · rw [if_pos (show lN (F + 1) < lN (2 ^ (hN a0 - wN a0) - 1) by rw [l_lt (by omega) (by omega)]; exact hc), if_neg (by omega)]
      have ec := r_rounded (W := W) (e := e) (q := q) hW (by omega) (by omega) (by rcases hs with h | h; exact Or.inr h; exact Or.inl (by omega))
      have hcl := Jvm.FP.Core.nearest_units_le (f := fF a0) (A := W) (B := 1) (by omega) Nat.one_pos e
      rw [← hquant, f_p] at hcl
      rw [iI_sub, ec, wb_shl F w1, lN_add]
      generalize Jvm.FP.Core.nearest (Jvm.FP.Core.unitsNum W e q) (Jvm.FP.Core.unitsDen 1 e q) = cc at hcl ⊢
      have hz : F * 2 ^ wN a0 + cc < 2 ^ hN a0 := by
        rw [Nat.pow_succ] at hcl
        have h1 := Nat.mul_le_mul_right (2 ^ wN a0) (show F + 2 ≤ 2 ^ (hN a0 - wN a0) - 1 by omega)
        rw [Nat.add_mul] at h1
        omega
      rw [r_signed a0 neg hz, hsg, f_tails, hqi, hF, Int.toNat_natCast]
    · rw [if_neg (show ¬ lN (F + 1) < lN (2 ^ (hN a0 - wN a0) - 1) by rw [l_lt (by omega) (by omega)]; exact hc), if_pos (by omega), r_signed a0 neg hinf, hsg, f_inf]
end
section
/-! the parts of a float's bits, as the class reads them, are those of the model -/
theorem mN_mod (a0 : Int32) {n N : Nat} (h : n % 2 ^ hN a0 = N % 2 ^ hN a0) : mN a0 n = mN a0 N := by
  obtain ⟨-, -, h3, -, -, -⟩ := wh_b a0
  have hd : 2 ^ wN a0 ∣ 2 ^ hN a0 := Nat.pow_dvd_pow 2 (by omega)
  have e : n % 2 ^ wN a0 = N % 2 ^ wN a0 := by
    rw [← Nat.mod_mod_of_dvd n hd, ← Nat.mod_mod_of_dvd N hd, h]
  unfold mN
  rw [h, e]
theorem eN_mod (a0 : Int32) {n N : Nat} (h : n % 2 ^ hN a0 = N % 2 ^ hN a0) : eN a0 n = eN a0 N := by
  unfold eN
  rw [h]
theorem x_mant (a0 : Int32) {N : Nat} (h : N < 2 * 2 ^ hN a0) : jX4_mantissa a0 (xb a0 N) = lN (mN a0 N) := by
  obtain ⟨n, h1, h2, h3, -⟩ := xb_lN a0 h
  rw [h2, r_mant a0 h1, mN_mod a0 h3]
theorem x_exp (a0 : Int32) {N : Nat} (h : N < 2 * 2 ^ hN a0) : jX4_exponent a0 (xb a0 N) = iI (eN a0 N) := by
  obtain ⟨n, h1, h2, h3, -⟩ := xb_lN a0 h
  rw [h2, r_exp a0 h1, eN_mod a0 h3]
theorem x_size (a0 : Int32) {N : Nat} (h : N < 2 * 2 ^ hN a0) : jX4_sizeOf a0 (xb a0 N) = lN (N % 2 ^ hN a0) := by
  obtain ⟨n, h1, h2, h3, -⟩ := xb_lN a0 h
  rw [h2, r_size a0 h1, h3]
theorem x_neg (a0 : Int32) {N : Nat} (h : N < 2 * 2 ^ hN a0) : (0 : Int64) ≤ xb a0 N ↔ N < 2 ^ hN a0 := by
  obtain ⟨n, h1, h2, -, h4⟩ := xb_lN a0 h
  rw [h2, l_neg h1, h4]
/-- the sign, as the model has it -/
def sN2 (a0 : Int32) (N : Nat) : Bool := decide (2 ^ hN a0 ≤ N)
theorem x_sg (a0 : Int32) {N : Nat} (h : N < 2 * 2 ^ hN a0) : sg (if (0 : Int64) ≤ xb a0 N then (0 : Int32) else (1 : Int32)) = sN2 a0 N := by
  unfold sg sN2
  by_cases q : N < 2 ^ hN a0
  · rw [if_pos ((x_neg a0 h).mpr q)]
    simp only [not_true_eq_false, decide_false]
    exact (decide_eq_false (by omega)).symm
  · rw [if_neg (fun w => q ((x_neg a0 h).mp w)), decide_eq_true (by decide), decide_eq_true (by omega)]
def iN (a0 : Int32) : Nat := (2 ^ (hN a0 - wN a0) - 1) * 2 ^ wN a0
theorem iN_lt (a0 : Int32) : iN a0 < 2 ^ hN a0 := inf_lt a0
theorem x_fit (a0 : Int32) {N : Nat} (h : N < 2 * 2 ^ hN a0) : jX4_isFit a0 (xb a0 N) = if N % 2 ^ hN a0 < iN a0 then 1 else 0 := by
  have b1 := p_hb a0
  have b2 := iN_lt a0
  have b3 := Nat.mod_lt N (Nat.two_pow_pos (hN a0))
  unfold jX4_isFit
  rw [x_size a0 h, r_endless]
  show (if lN (iN a0) ≤ _ then _ else _) = _
  by_cases q : N % 2 ^ hN a0 < iN a0
  · rw [if_neg (fun w => by have := (l_le (by omega) (by omega)).mp w; omega), if_pos q]
  · rw [if_pos ((l_le (by omega) (by omega)).mpr (by omega)), if_neg q]
theorem x_num (a0 : Int32) {N : Nat} (h : N < 2 * 2 ^ hN a0) : jX4_isNumber a0 (xb a0 N) = if N % 2 ^ hN a0 ≤ iN a0 then 1 else 0 := by
  have b1 := p_hb a0
  have b2 := iN_lt a0
  have b3 := Nat.mod_lt N (Nat.two_pow_pos (hN a0))
  unfold jX4_isNumber
  rw [x_size a0 h, r_endless]
  show (if lN (iN a0) < _ then _ else _) = _
  by_cases q : N % 2 ^ hN a0 ≤ iN a0
  · rw [if_neg (fun w => by have := (l_lt (by omega) (by omega)).mp w; omega), if_pos q]
  · rw [if_pos ((l_lt (by omega) (by omega)).mpr (by omega)), if_neg q]
theorem x_zero (a0 : Int32) {N : Nat} (h : N < 2 * 2 ^ hN a0) : jX4_isZero a0 (xb a0 N) = if N % 2 ^ hN a0 = 0 then 1 else 0 := by
  have b1 := p_hb a0
  have b3 := Nat.mod_lt N (Nat.two_pow_pos (hN a0))
  unfold jX4_isZero
  rw [x_size a0 h]
  by_cases q : N % 2 ^ hN a0 = 0
  · rw [q, if_pos (show lN 0 = (0 : Int64) from rfl), if_pos rfl]
  · rw [if_neg (show ¬ lN (N % 2 ^ hN a0) = (0 : Int64) from fun w => q ((l_eq (b := 0) (by omega) (by decide)).mp w)), if_neg q]
theorem dec_E (a0 : Int32) (N : Nat) : Jvm.FP.Core.fieldE (fF a0) N = N % 2 ^ hN a0 / 2 ^ wN a0 := by
  unfold Jvm.FP.Core.fieldE
  rw [f_tails, f_exps, ← f_hw a0, Nat.mul_comm, Nat.mod_mul_right_div_self]
theorem dec_S (a0 : Int32) {N : Nat} (h : N < 2 * 2 ^ hN a0) : Jvm.FP.Core.fieldS (fF a0) N = sN2 a0 N := by
  unfold Jvm.FP.Core.fieldS sN2
  rw [f_tails, f_exps, Nat.div_div_eq_div_mul, Nat.mul_comm, f_hw a0]
  by_cases q : 2 ^ hN a0 ≤ N
  · have : N / 2 ^ hN a0 = 1 := by
      rw [Nat.div_eq_iff (Nat.two_pow_pos _)]
      omega
    rw [this, decide_eq_true q]; rfl
  · rw [Nat.div_eq_of_lt (by omega), decide_eq_false q]; rfl
/-- a fit one, decoded -/
theorem dec_fin (a0 : Int32) {N : Nat} (h : N < 2 * 2 ^ hN a0) (hf : N % 2 ^ hN a0 < iN a0) : Jvm.FP.Core.decode (fF a0) N = .fin (sN2 a0 N) (mN a0 N) (eN a0 N) := by
  have hp := Nat.two_pow_pos (wN a0)
  have he : N % 2 ^ hN a0 / 2 ^ wN a0 < 2 ^ (hN a0 - wN a0) - 1 := by
    rw [Nat.div_lt_iff_lt_mul hp]
    exact hf
  unfold Jvm.FP.Core.decode
  rw [dec_E, dec_S a0 h, f_exps, if_neg (by omega), f_qmin, f_tails]
  unfold Jvm.FP.Core.fieldT
  rw [f_tails]
  unfold mN eN
  by_cases q : N % 2 ^ hN a0 < 2 ^ wN a0
  · rw [if_pos (Nat.div_eq_of_lt q), if_pos q, Nat.div_eq_of_lt q]
    congr 1
    omega
  · have h1 : 1 ≤ N % 2 ^ hN a0 / 2 ^ wN a0 := (Nat.le_div_iff_mul_le hp).mpr (by omega)
    rw [if_neg (by omega), if_neg q, Nat.add_comm]
    congr 1
    omega
theorem dec_inf (a0 : Int32) {N : Nat} (h : N < 2 * 2 ^ hN a0) (hf : N % 2 ^ hN a0 = iN a0) : Jvm.FP.Core.decode (fF a0) N = .inf (sN2 a0 N) := by
  obtain ⟨-, -, h3, -, -, -⟩ := wh_b a0
  have hp := Nat.two_pow_pos (wN a0)
  unfold Jvm.FP.Core.decode
  rw [dec_E, dec_S a0 h, f_exps, hf]
  unfold iN
  rw [Nat.mul_div_cancel _ hp, if_pos rfl]
  unfold Jvm.FP.Core.fieldT
  rw [f_tails]
  have hd : 2 ^ wN a0 ∣ 2 ^ hN a0 := Nat.pow_dvd_pow 2 (by omega)
  rw [← Nat.mod_mod_of_dvd N hd, hf]
  unfold iN
  rw [Nat.mul_mod_left, if_pos rfl]
theorem enc_lt (a0 : Int32) (d : Jvm.FP.Core.Datum) (h : Jvm.FP.Core.fits (fF a0) d) : Jvm.FP.Core.encode (fF a0) d < 2 * 2 ^ hN a0 := by
  have := Jvm.FP.Core.encode_lt (f_good a0) d h
  rw [f_size] at this
  exact this
theorem enc_inf (a0 : Int32) (s : Bool) : Jvm.FP.Core.encode (fF a0) (.inf s) = s.toNat * 2 ^ hN a0 + iN a0 := by
  unfold Jvm.FP.Core.encode Jvm.FP.Core.assemble
  dsimp only
  rw [f_exps, f_tails, Nat.add_zero, Nat.add_mul, Nat.mul_assoc, f_hw]
  rfl
/-- mantissa and exponent of a fit one fit the format -/
theorem dec_ok (a0 : Int32) {N : Nat} (h : N < 2 * 2 ^ hN a0) (hf : N % 2 ^ hN a0 < iN a0) : mN a0 N < 2 ^ (wN a0 + 1) ∧ qN a0 ≤ eN a0 N ∧ (eN a0 N = qN a0 ∨ 2 ^ wN a0 ≤ mN a0 N) := by
  have := Jvm.FP.Core.decode_fits (f_good a0) N
  rw [dec_fin a0 h hf] at this
  obtain ⟨h1, h2, -, h4⟩ := this
  rw [f_p] at h1
  rw [f_qmin] at h2 h4
  rw [f_tails] at h4
  exact ⟨h1, h2, h4⟩
end
section
/-! numbers cast from kind to kind -/
theorem sg_half (a0 neg : Int32) : (if neg = 0 then 0 else 2 ^ hN a0) = (sg neg).toNat * 2 ^ hN a0 := by
  unfold sg
  by_cases h : neg = 0 <;> simp [h]
theorem o_real (a0 a1 : Int32) {N : Nat} (h : N < 2 * 2 ^ hN a0) (hn : N % 2 ^ hN a0 ≤ iN a0) : jX4_ofReal a0 a1 (xb a0 N) = xb a1 (Jvm.FP.Core.convert (fF a0) (fF a1) N) := by
  have hm := mN_53 a0 N
  have he := eN_b a0 N
  unfold jX4_ofReal jX4_ofReal_y2 jX4_ofReal_y4 Jvm.FP.Core.convert
  rw [x_fit a0 h]
  by_cases q : N % 2 ^ hN a0 < iN a0
  · rw [if_pos q, if_neg (by decide), x_mant a0 h, x_exp a0 h, r_near a1 _ (by omega) (by omega) (by omega) (Or.inl (by omega)), x_sg a0 h, dec_fin a0 h q]
    rfl
  · rw [if_neg q, if_pos rfl, r_endless]
    show jX4_signed a1 _ (lN (iN a1)) = _
    rw [r_signed a1 _ (iN_lt a1), sg_half, x_sg a0 h, dec_inf a0 h (by omega)]
    show _ = xb a1 (Jvm.FP.Core.encode (fF a1) (.inf (sN2 a0 N)))
    rw [enc_inf]
theorem lI_n (n : Nat) : lN n = Int64.ofInt n := wb_inj (by show BitVec.ofNat 64 n = BitVec.ofInt 64 (n : Int); rw [BitVec.ofInt_natCast])
theorem l_abs (v : Int64) : (if 0 < v then v else -v) = lN v.toInt.natAbs := by
  have e := Int64.ofInt_toInt v
  rw [lI_n]
  by_cases h : 0 < v
  · rw [if_pos h]
    rw [Int64.lt_iff_toInt_lt] at h
    have h : (0 : Int) < v.toInt := h
    rw [show ((v.toInt.natAbs : Nat) : Int) = v.toInt by omega, e]
  · rw [if_neg h]
    rw [Int64.lt_iff_toInt_lt] at h
    have h : ¬ (0 : Int) < v.toInt := h
    rw [show ((v.toInt.natAbs : Nat) : Int) = -v.toInt by omega, Int64.ofInt_neg, e]
theorem l_sg (v : Int64) : sg (if (0 : Int64) ≤ v then (0 : Int32) else (1 : Int32)) = decide (v.toInt < 0) := by
  unfold sg
  by_cases h : (0 : Int64) ≤ v
  · rw [if_pos h]
    rw [Int64.le_iff_toInt_le] at h
    have h : (0 : Int) ≤ v.toInt := h
    rw [decide_eq_false (by decide), decide_eq_false (by omega)]
  · rw [if_neg h]
    rw [Int64.le_iff_toInt_le] at h
    have h : ¬ (0 : Int) ≤ v.toInt := h
    rw [decide_eq_true (by decide), decide_eq_true (by omega)]
theorem o_long (a0 : Int32) (v : Int64) : jX4_ofLong a0 v = xb a0 (Jvm.FP.Core.fromInt (fF a0) v.toInt) := by
  have h1 := Int64.le_toInt v
  have h2 := Int64.toInt_lt v
  unfold jX4_ofLong jX4_ofLong_y1 Jvm.FP.Core.fromInt Jvm.FP.Core.ofInt
  rw [l_abs, show (0 : Int32) = iI 0 by decide, ← show (0 : Int32) = iI 0 by decide]
  have e0 : (0 : Int32) = iI 0 := by decide
  have := r_near a0 (if (0 : Int64) ≤ v then (0 : Int32) else (1 : Int32)) (W := v.toInt.natAbs) (e := 0) (by omega) (by omega) (by omega) (Or.inl (by omega))
  rw [← e0, l_sg] at this
  exact this
/-- what is cut toward 0 -/
theorem trunc_pos {m : Nat} {e : Int} (s : Bool) (h : 0 ≤ e) : Jvm.FP.Core.truncate s m e = Jvm.FP.Core.signed s (m * 2 ^ e.toNat) := by
  unfold Jvm.FP.Core.truncate
  rw [show (-e).toNat = 0 by omega, Nat.pow_zero, Nat.div_one]
theorem trunc_neg {m : Nat} {e : Int} (s : Bool) (h : e < 0) : Jvm.FP.Core.truncate s m e = Jvm.FP.Core.signed s (m / 2 ^ (-e).toNat) := by
  unfold Jvm.FP.Core.truncate
  rw [show e.toNat = 0 by omega, Nat.pow_zero, Nat.mul_one]
theorem clamp_in {V : Nat} (s : Bool) (h : V < 9223372036854775808) : Int64.ofInt (max (-2 ^ 63) (min (2 ^ 63 - 1) (Jvm.FP.Core.signed s V))) = if s = true then -lN V else lN V := by
  unfold Jvm.FP.Core.signed
  cases s with
  | false => rw [if_neg (by decide), if_neg (by decide), lI_n]; congr 1; omega
  | true => rw [if_pos rfl, if_pos rfl, lI_n, ← Int64.ofInt_neg]; congr 1; omega
theorem clamp_out {V : Nat} (s : Bool) (h : 9223372036854775808 ≤ V) : Int64.ofInt (max (-2 ^ 63) (min (2 ^ 63 - 1) (Jvm.FP.Core.signed s V))) = if s = true then (-9223372036854775808 : Int64) else (9223372036854775807 : Int64) := by
  unfold Jvm.FP.Core.signed
  cases s with
  | false =>
    rw [if_neg (by decide), if_neg (by decide), show max (-2 ^ 63) (min (2 ^ 63 - 1) (V : Int)) = 9223372036854775807 by omega]
    decide
  | true =>
    rw [if_pos rfl, if_pos rfl, show max (-2 ^ 63) (min (2 ^ 63 - 1) (-(V : Int))) = -9223372036854775808 by omega]
    decide
theorem x_sw {α : Type} (a0 : Int32) {N : Nat} (h : N < 2 * 2 ^ hN a0) (A B : α) : (if (0 : Int64) ≤ xb a0 N then A else B) = if sN2 a0 N = true then B else A := by
  unfold sN2
  by_cases q : N < 2 ^ hN a0
  · rw [if_pos ((x_neg a0 h).mpr q), if_neg (by simp; omega)]
  · rw [if_neg (fun w => q ((x_neg a0 h).mp w)), if_pos (by simp; omega)]
theorem o_cut (a0 : Int32) {N : Nat} (h : N < 2 * 2 ^ hN a0) (hn : N % 2 ^ hN a0 ≤ iN a0) : jX4_cutToLong a0 (xb a0 N) = Jvm.FP.Core.toL (Jvm.FP.Core.decode (fF a0) N) := by
  have hm := mN_53 a0 N
  have he := eN_b a0 N
  have hb : bN (mN a0 N) ≤ 53 := bN_le (k := 53) (by omega)
  unfold jX4_cutToLong jX4_cutToLong_y1 jX4_cutToLong_y2 jX4_cutToLong_y5
  rw [x_mant a0 h, x_exp a0 h, r_len (by omega)]
  simp only [x_sw a0 h]
  have c1 : (nI (bN (mN a0 N)) + iI (eN a0 N) ≤ (63 : Int32)) ↔ (bN (mN a0 N) : Int) + eN a0 N ≤ 63 := by
    rw [iI_n, iI_add, show (63 : Int32) = iI 63 by decide, iI_le (by omega) (by omega) (by omega) (by omega)]
  have c2 : ((-64 : Int32) < iI (eN a0 N)) ↔ -64 < eN a0 N := by
    rw [show (-64 : Int32) = iI (-64) by decide, iI_lt (by omega) (by omega) (by omega) (by omega)]
  have c3 : (0 ≤ iI (eN a0 N)) ↔ 0 ≤ eN a0 N := by
    rw [show (0 : Int32) = iI 0 by decide, iI_le (by omega) (by omega) (by omega) (by omega)]
  by_cases q : N % 2 ^ hN a0 < iN a0
  · rw [dec_fin a0 h q]
    obtain ⟨d1, d2, d3⟩ := dec_ok a0 h q
    have hq := q_b a0
    have hpw := Nat.two_pow_pos (wN a0)
    unfold Jvm.FP.Core.toL Jvm.FP.Core.toInt
    dsimp only
    by_cases g1 : (bN (mN a0 N) : Int) + eN a0 N ≤ 63
    · rw [if_pos (c1.mpr g1)]
      by_cases g2 : -64 < eN a0 N
      · rw [if_pos (c2.mpr g2)]
        by_cases g3 : 0 ≤ eN a0 N
        · rw [trunc_pos _ g3]
          obtain ⟨k, hk⟩ : ∃ k : Nat, eN a0 N = (k : Int) := ⟨(eN a0 N).toNat, by omega⟩
          have hV : mN a0 N * 2 ^ k < 9223372036854775808 := by
            by_cases z : mN a0 N = 0
            · rw [z]; omega
            · obtain ⟨b1, b2, b3⟩ := bN_spec z
              have := Nat.mul_lt_mul_of_pos_right b2 (Nat.two_pow_pos k)
              rw [← Nat.pow_add] at this
              exact Nat.lt_of_lt_of_le this (Nat.le_trans (Nat.pow_le_pow_right (by decide) (show bN (mN a0 N) + k ≤ 63 by omega)) (by decide))
          have e1 : lN (mN a0 N) <<< ((iI (eN a0 N)).toInt64 &&& 63) = lN (mN a0 N * 2 ^ k) := by
            rw [hk, ← iI_n]
            exact wb_shl _ (by omega)
          rw [if_pos (c3.mpr g3), e1, hk, Int.toNat_natCast, clamp_in _ hV]
        · rw [trunc_neg _ (by omega)]
          obtain ⟨k, hk⟩ : ∃ k : Nat, -eN a0 N = (k : Int) := ⟨(-eN a0 N).toNat, by omega⟩
          have hV : mN a0 N / 2 ^ k < 9223372036854775808 := Nat.lt_of_le_of_lt (Nat.div_le_self _ _) (by omega)
          have e1 : ((lN (mN a0 N)).toUInt64 >>> ((-iI (eN a0 N)).toInt64.toUInt64 &&& Int64.toUInt64 63)).toInt64 = lN (mN a0 N / 2 ^ k) := by
            rw [iI_neg, hk, ← iI_n]
            exact wb_shr (by omega) (by omega)
          rw [if_neg (fun w => g3 (c3.mp w)), e1, hk, Int.toNat_natCast, clamp_in _ hV]
      · rw [if_neg (fun w => g2 (c2.mp w)), trunc_neg _ (by omega)]
        obtain ⟨k, hk⟩ : ∃ k : Nat, -eN a0 N = (k : Int) := ⟨(-eN a0 N).toNat, by omega⟩
        have hz : mN a0 N / 2 ^ k = 0 := Nat.div_eq_of_lt (Nat.lt_of_lt_of_le hm (Nat.le_trans (by decide) (Nat.pow_le_pow_right (by decide) (show 53 ≤ k by omega))))
        rw [hk, Int.toNat_natCast, hz, clamp_in _ (by decide)]
        split <;> rfl
    · rw [if_neg (fun w => g1 (c1.mp w)), trunc_pos _ (by omega)]
      obtain ⟨k, hk⟩ : ∃ k : Nat, eN a0 N = (k : Int) := ⟨(eN a0 N).toNat, by omega⟩
      have z : mN a0 N ≠ 0 := by omega
      obtain ⟨b1, b2, b3⟩ := bN_spec z
      have hV : 9223372036854775808 ≤ mN a0 N * 2 ^ k := by
        have := Nat.mul_le_mul_right (2 ^ k) b1
        rw [← Nat.pow_add] at this
        exact Nat.le_trans (Nat.le_trans (by decide) (Nat.pow_le_pow_right (by decide) (show 63 ≤ bN (mN a0 N) - 1 + k by omega))) this
      rw [hk, Int.toNat_natCast, clamp_out _ hV]
  · have hi : N % 2 ^ hN a0 = iN a0 := by omega
    rw [dec_inf a0 h hi]
    have hE : eN a0 N = qN a0 + ((2 ^ (hN a0 - wN a0) - 2 : Nat) : Int) := by
      unfold eN
      rw [hi]
      unfold iN
      rw [Nat.mul_div_cancel _ (Nat.two_pow_pos _)]
      omega
    have hbig : 63 < eN a0 N := by
      rw [hE]
      unfold qN hN wN
      split <;> decide
    rw [if_neg (fun w => by have := c1.mp w; omega)]
    unfold Jvm.FP.Core.toL Jvm.FP.Core.toInt
    dsimp only
    cases sN2 a0 N <;> decide
end
section
/-! the sum: three bits more than are kept, the last of them for all that is shifted out -/
theorem sk_odd (u : Nat) : (u ||| 1) = 2 * (u / 2) + 1 := by
  have h1 := Nat.two_pow_add_eq_or_of_lt (i := 1) (b := 1) (by decide) (u / 2)
  have h1 : 2 * (u / 2) + 1 = 2 * (u / 2) ||| 1 := h1
  rcases Nat.mod_two_eq_zero_or_one u with h | h
  · rw [h1, show 2 * (u / 2) = u by omega]
  · have hu : u = 2 * (u / 2) ||| 1 := by omega
    rw [h1]
    conv => lhs; rw [hu]
    rw [Nat.or_assoc, Nat.or_self]
def St (V k : Nat) : Nat := if V % 2 ^ k = 0 then V / 2 ^ k else 2 * (V / 2 ^ k / 2) + 1
theorem r_more {u r : Nat} (hu : u < 2 ^ 64) (hr : r < 2 ^ 64) : jX4_withMore (lN u) (lN r) = lN (if r = 0 then u else 2 * (u / 2) + 1) := by
  unfold jX4_withMore
  by_cases h : r = 0
  · rw [if_pos (show lN r = (0 : Int64) by rw [h]; rfl), if_pos h]
  · rw [if_neg (show ¬ lN r = (0 : Int64) from fun w => h ((l_eq (b := 0) hr (by decide)).mp w)), if_neg h, ← sk_odd]
    exact wb_or (b := 1) hu (by decide)
theorem r_shift {V k : Nat} (hV : V < 9223372036854775808) (hk : k < 2147483648) : jX4_shiftedOut (lN V) (nI k) = lN (St V k) := by
  unfold jX4_shiftedOut St
  by_cases h : k ≤ 63
  · have hm := Nat.mod_le V (2 ^ k)
    rw [if_pos (show nI k ≤ (63 : Int32) from nI_le (b := 63) h (by decide)), wb_shr (by omega) (by omega), p_one k (by omega), p_ones, wb_mask (by omega) (by omega), r_more (Nat.lt_of_le_of_lt (Nat.div_le_self _ _) (by omega)) (by omega)]
  · have hc : ¬ nI k ≤ (63 : Int32) := fun w => h ((nI_leI (b := 63) (by omega) (by decide)).mp w)
    have hp : 2 ^ 64 ≤ 2 ^ k := Nat.pow_le_pow_right (by decide) (by omega)
    have hlt : V < 2 ^ k := by omega
    rw [if_neg hc, Nat.mod_eq_of_lt hlt, Nat.div_eq_of_lt hlt]
    exact r_more (u := 0) (by decide) (by omega)
theorem St_spec (V k : Nat) : (V % 2 ^ k = 0 ∧ V = 2 ^ k * St V k) ∨ (0 < V % 2 ^ k ∧ St V k % 2 = 1 ∧ 2 ^ k * St V k < V + 2 ^ k ∧ V < 2 ^ k * St V k + 2 ^ k) := by
  have h1 := Nat.div_add_mod V (2 ^ k)
  have h2 := Nat.mod_lt V (Nat.two_pow_pos k)
  unfold St
  by_cases h : V % 2 ^ k = 0
  · left
    rw [if_pos h]
    exact ⟨h, by omega⟩
  · right
    rw [if_neg h]
    generalize V / 2 ^ k = u at *
    refine ⟨by omega, by omega, ?_⟩
    rcases Nat.mod_two_eq_zero_or_one u with g | g
    · rw [show 2 * (u / 2) + 1 = u + 1 by omega, Nat.mul_add, Nat.mul_one]
      omega
    · rw [show 2 * (u / 2) + 1 = u by omega]
      omega
theorem sm_scale {f : Jvm.FP.Core.Fmt} {s : Bool} {A k : Nat} {e : Int} : Jvm.FP.Core.roundRatio f s A 1 e = Jvm.FP.Core.roundRatio f s (8 * A) (2 ^ k) (e + k - 3) := by
  refine Jvm.FP.Core.roundRatio_congr (by decide) (Nat.two_pow_pos k) ?_
  rcases Nat.lt_or_ge k 3 with h | h
  · rw [show (e - (e + k - 3)).toNat = 3 - k by omega, show (e + k - 3 - e).toNat = 0 by omega, Nat.mul_assoc, ← Nat.pow_add, show k + (3 - k) = 3 by omega]
    omega
  · rw [show (e - (e + k - 3)).toNat = 0 by omega, show (e + k - 3 - e).toNat = k - 3 by omega, Nat.pow_zero, Nat.mul_one, Nat.mul_one]
    have : 2 ^ k = 8 * 2 ^ (k - 3) := by rw [show (8 : Nat) = 2 ^ 3 by decide, ← Nat.pow_add]; congr 1; omega
    rw [this]
    ac_rfl
/-- the class's total, rounded, is the exact sum's rounding -/
theorem sm_round {f : Jvm.FP.Core.Fmt} {s : Bool} {A T k : Nat} {e : Int} (h : T * 2 ^ k = 8 * A ∨ (T % 2 = 1 ∧ 2 ^ k * (T - 1) < 8 * A ∧ 8 * A < 2 ^ k * (T + 1) ∧ 2 ^ (f.p + 1) ≤ T)) : Jvm.FP.Core.roundRatio f s A 1 e = Jvm.FP.Core.roundRatio f s T 1 (e + k - 3) := by
  rw [sm_scale (k := k)]
  rcases h with h | ⟨h1, h2, h3, h4⟩
  · refine Jvm.FP.Core.roundRatio_congr (Nat.two_pow_pos k) (by decide) ?_
    rw [Int.sub_self]
    show 8 * A * 1 * 2 ^ 0 = T * 2 ^ k * 2 ^ 0
    rw [h, Nat.mul_one]
  · exact rd_odd s _ (Nat.two_pow_pos k) h1 h2 h3 h4
theorem sm_add {M V k w : Nat} {f : Jvm.FP.Core.Fmt} (hM : M % 2 = 0) (hk : 0 < V % 2 ^ k → 2 ^ (f.p + 1) ≤ M) {A : Nat} (hA : 8 * A = 2 ^ k * M + V) : (M + St V k) * 2 ^ k = 8 * A ∨ ((M + St V k) % 2 = 1 ∧ 2 ^ k * (M + St V k - 1) < 8 * A ∧ 8 * A < 2 ^ k * (M + St V k + 1) ∧ 2 ^ (f.p + 1) ≤ M + St V k) := by
  rcases St_spec V k with ⟨h1, h2⟩ | ⟨h1, h2, h3, h4⟩
  · left
    rw [hA, Nat.mul_comm, Nat.mul_add, ← h2]
  · right
    have := hk h1
    rw [Nat.mul_sub, Nat.mul_add, Nat.mul_add, Nat.mul_add, Nat.mul_one]
    have hS : 2 ^ k ≤ 2 ^ k * St V k := Nat.le_mul_of_pos_right _ (by omega)
    omega
theorem sm_sub {M V k : Nat} {f : Jvm.FP.Core.Fmt} (hM : M % 2 = 0) (hk : 0 < V % 2 ^ k → 2 ^ (f.p + 1) + St V k ≤ M) {A : Nat} (hA : 8 * A + V = 2 ^ k * M) : St V k ≤ M ∧ ((M - St V k) * 2 ^ k = 8 * A ∨ ((M - St V k) % 2 = 1 ∧ 2 ^ k * (M - St V k - 1) < 8 * A ∧ 8 * A < 2 ^ k * (M - St V k + 1) ∧ 2 ^ (f.p + 1) ≤ M - St V k)) := by
  rcases St_spec V k with ⟨h1, h2⟩ | ⟨h1, h2, h3, h4⟩
  · have hle : St V k ≤ M := by
      rcases Nat.lt_or_ge M (St V k) with q | q
      · have := Nat.mul_lt_mul_of_pos_left q (Nat.two_pow_pos k)
        omega
      · exact q
    refine ⟨hle, Or.inl ?_⟩
    rw [Nat.mul_comm, Nat.mul_sub]
    omega
  · have := hk h1
    refine ⟨Nat.le_trans (Nat.le_add_left _ _) this, Or.inr ?_⟩
    have hp := Nat.two_pow_pos (f.p + 1)
    generalize 2 ^ (f.p + 1) = gg at *
    have hS := Nat.mul_le_mul_left (2 ^ k) (show St V k + 1 ≤ M by omega)
    rw [Nat.mul_sub, Nat.mul_sub, Nat.mul_add, Nat.mul_sub, Nat.mul_one]
    rw [Nat.mul_add, Nat.mul_one] at hS
    omega
/-- of two fit ones the larger: its exponent is no less; what it is in units of the other's exponent is no less -/
theorem ord_e (a0 : Int32) {X Y : Nat} (h : Y % 2 ^ hN a0 ≤ X % 2 ^ hN a0) : ∃ k : Nat, eN a0 X = eN a0 Y + k ∧ k < 2048 ∧ (k = 0 → mN a0 Y ≤ mN a0 X) ∧ (0 < k → 2 ^ wN a0 ≤ mN a0 X) := by
  obtain ⟨-, -, h3, -, -, -⟩ := wh_b a0
  have hp := Nat.two_pow_pos (wN a0)
  have hd : 2 ^ wN a0 ∣ 2 ^ hN a0 := Nat.pow_dvd_pow 2 (by omega)
  have f1 := p_field a0 X
  unfold eN mN
  rw [← Nat.mod_mod_of_dvd X hd, ← Nat.mod_mod_of_dvd Y hd]
  generalize X % 2 ^ hN a0 = x at *
  generalize Y % 2 ^ hN a0 = y at *
  have m1 := Nat.div_le_div_right (c := 2 ^ wN a0) h
  have d1 := Nat.div_add_mod x (2 ^ wN a0)
  have d2 := Nat.div_add_mod y (2 ^ wN a0)
  have l1 := Nat.mod_lt x hp
  have l2 := Nat.mod_lt y hp
  refine ⟨(x / 2 ^ wN a0 - 1) - (y / 2 ^ wN a0 - 1), by omega, by omega, fun hk => ?_, fun hk => ?_⟩
  · by_cases q : x < 2 ^ wN a0
    · rw [if_pos q, if_pos (by omega), Nat.mod_eq_of_lt q, Nat.mod_eq_of_lt (by omega)]
      exact h
    · rw [if_neg q]
      by_cases q2 : y < 2 ^ wN a0
      · rw [if_pos q2]; omega
      · rw [if_neg q2]
        have a1 : 1 ≤ x / 2 ^ wN a0 := (Nat.le_div_iff_mul_le hp).mpr (by omega)
        have a2 : 1 ≤ y / 2 ^ wN a0 := (Nat.le_div_iff_mul_le hp).mpr (by omega)
        have a3 : x / 2 ^ wN a0 = y / 2 ^ wN a0 := by omega
        rw [a3] at d1
        omega
  · by_cases q : x < 2 ^ wN a0
    · rw [Nat.div_eq_of_lt q] at hk; omega
    · rw [if_neg q]; omega
end
section
theorem b_eq (a0 : Int32) {X Y : Nat} (hX : X < 2 * 2 ^ hN a0) (hY : Y < 2 * 2 ^ hN a0) : ((if (0 : Int64) ≤ xb a0 X then (0 : Int32) else (1 : Int32)) = (if (0 : Int64) ≤ xb a0 Y then (0 : Int32) else (1 : Int32))) ↔ sN2 a0 X = sN2 a0 Y := by
  rw [x_sw a0 hX, x_sw a0 hY]
  cases sN2 a0 X <;> cases sN2 a0 Y <;> decide
theorem ex_sum (s t : Bool) {c d : Nat} {q r : Int} {k : Nat} (hk : q = r + k) (hle : d ≤ c * 2 ^ k) : Jvm.FP.Core.exactSum (.fin s c q) (.fin t d r) = .fin (if s = t then s else (if c * 2 ^ k - d = 0 then false else s)) (if s = t then c * 2 ^ k + d else c * 2 ^ k - d) r := by
  unfold Jvm.FP.Core.exactSum
  dsimp only
  rw [show min q r = r by omega]
  unfold Jvm.FP.Core.sumUnits Jvm.FP.Core.inUnits
  rw [show (q - r).toNat = k by omega, show (r - r).toNat = 0 by omega, Nat.pow_zero, Nat.mul_one]
  generalize c * 2 ^ k = C at *
  unfold Jvm.FP.Core.sumSign Jvm.FP.Core.signed
  have hc : ∀ (b1 b2 : Bool) (n1 n2 : Nat), b1 = b2 → n1 = n2 → Jvm.FP.Core.Datum.fin b1 n1 r = Jvm.FP.Core.Datum.fin b2 n2 r := fun _ _ _ _ h1 h2 => by rw [h1, h2]
  cases s <;> cases t
  · refine hc _ _ _ _ ?_ ?_
    · simp only [Bool.false_eq_true, if_false, if_true]
      split
      · rfl
      · exact decide_eq_false (by omega)
    · simp only [Bool.false_eq_true, if_false, if_true]; omega
  · refine hc _ _ _ _ ?_ ?_
    · simp only [Bool.false_eq_true, if_false, if_true]
      split
      · split <;> rfl
      · rw [decide_eq_false (by omega)]; split <;> rfl
    · simp only [Bool.false_eq_true, if_false, if_true]; omega
  · refine hc _ _ _ _ ?_ ?_
    · simp only [Bool.true_eq_false, Bool.false_eq_true, if_false, if_true]
      split
      · rw [if_pos (by omega)]; rfl
      · rw [decide_eq_true (by omega), if_neg (by omega)]
    · simp only [Bool.true_eq_false, Bool.false_eq_true, if_false, if_true]; omega
  · refine hc _ _ _ _ ?_ ?_
    · simp only [if_true]
      split
      · rfl
      · exact decide_eq_true (by omega)
    · simp only [if_true]; omega
set_option maxHeartbeats 1000000 in
theorem o_sum5 (a0 : Int32) (u v : Int64) (y1 : Int32) {X Y : Nat} (hX : X < 2 * 2 ^ hN a0) (hY : Y < 2 * 2 ^ hN a0) (fX : X % 2 ^ hN a0 < iN a0) (fY : Y % 2 ^ hN a0 < iN a0) (hle : Y % 2 ^ hN a0 ≤ X % 2 ^ hN a0) : jX4_sum_y5 a0 u v y1 (xb a0 X) (xb a0 Y) = xb a0 (Jvm.FP.Core.add (fF a0) X Y) := by
  obtain ⟨k, k1, k2, k3, k4⟩ := ord_e a0 hle
  obtain ⟨dX1, dX2, dX3⟩ := dec_ok a0 hX fX
  obtain ⟨dY1, dY2, dY3⟩ := dec_ok a0 hY fY
  have mX := mN_53 a0 X
  have mY := mN_53 a0 Y
  have eX := eN_b a0 X
  have eY := eN_b a0 Y
  have hpk := Nat.two_pow_pos k
  have hpw := Nat.two_pow_pos (wN a0)
  unfold Jvm.FP.Core.add
  rw [dec_fin a0 hX fX, dec_fin a0 hY fY]
  -- the smaller one in units of the larger's
  have hunit : mN a0 Y ≤ mN a0 X * 2 ^ k := by
    rcases Nat.eq_zero_or_pos k with z | z
    · subst z; have := k3 rfl; omega
    · have h1 := k4 z
      have h2 : 2 ≤ 2 ^ k := Nat.le_trans (by decide) (Nat.pow_le_pow_right (show 0 < 2 by decide) z)
      have h3 := Nat.mul_le_mul h1 h2
      rw [Nat.pow_succ] at dY1
      omega
  rw [ex_sum _ _ k1 hunit]
  unfold jX4_sum_y5 jX4_sum_y7 jX4_sum_y8 jX4_sum_y9 jX4_sum_y10 jX4_sum_y12 jX4_sum_y14 jX4_sum_y16 jX4_sum_y18
  have e3 : ∀ m : Nat, lN m <<< ((3 : Int32).toInt64 &&& 63) = lN (m * 2 ^ 3) := fun m => wb_shl m (k := 3) (by decide)
  have ek : iI (eN a0 X) - iI (eN a0 Y) = nI k := by rw [iI_sub, iI_n]; congr 1; omega
  rw [x_mant a0 hX, x_mant a0 hY, x_exp a0 hX, x_exp a0 hY, e3, e3, ek, r_shift (by omega) (by omega)]
  have ee : iI (eN a0 X) - (3 : Int32) = iI (eN a0 Y + k - 3) := by rw [show (3 : Int32) = iI 3 by decide, iI_sub, k1]
  rw [ee]
  have hk4 : 0 < mN a0 Y * 2 ^ 3 % 2 ^ k → 4 ≤ k := by
    intro h
    rcases Nat.lt_or_ge k 4 with q | q
    · exfalso
      rcases (show k = 0 ∨ k = 1 ∨ k = 2 ∨ k = 3 by omega) with rfl | rfl | rfl | rfl <;> omega
    · exact q
  have hStB : 0 < mN a0 Y * 2 ^ 3 % 2 ^ k → St (mN a0 Y * 2 ^ 3) k ≤ 2 ^ wN a0 := by
    intro h
    have h4 := hk4 h
    rcases St_spec (mN a0 Y * 2 ^ 3) k with ⟨g, -⟩ | ⟨-, -, g, -⟩
    · omega
    · rcases Nat.lt_or_ge (2 ^ wN a0) (St (mN a0 Y * 2 ^ 3) k) with q | q
      · exfalso
        have h16 : 16 ≤ 2 ^ k := Nat.le_trans (by decide) (Nat.pow_le_pow_right (show 0 < 2 by decide) h4)
        have a1 := Nat.mul_le_mul_left (2 ^ k) (show 2 ^ wN a0 + 1 ≤ St (mN a0 Y * 2 ^ 3) k by omega)
        have a2 := Nat.mul_le_mul_right (2 ^ wN a0) h16
        rw [Nat.mul_add, Nat.mul_one] at a1
        rw [Nat.pow_succ] at dY1
        omega
      · exact q
  have hpp : 2 ^ ((fF a0).p + 1) = 4 * 2 ^ wN a0 := by rw [f_p, Nat.pow_succ, Nat.pow_succ]; omega
  have hT63 : mN a0 X * 2 ^ 3 + St (mN a0 Y * 2 ^ 3) k < 9223372036854775808 := by
    have : St (mN a0 Y * 2 ^ 3) k ≤ mN a0 Y * 2 ^ 3 + 1 := by
      have := Nat.div_le_self (mN a0 Y * 2 ^ 3) (2 ^ k)
      unfold St
      split <;> omega
    omega
  simp only [b_eq a0 hX hY]
  by_cases hs : sN2 a0 X = sN2 a0 Y
  · -- of one sign
    have c10 : ¬ ((1 : Int32) = 0) := by decide
    simp only [if_pos hs, if_neg c10, lN_add]
    have h8 : mN a0 X * 2 ^ 3 * 2 ^ k = 8 * (mN a0 X * 2 ^ k) := by rw [Nat.mul_assoc, Nat.mul_comm (2 ^ 3), ← Nat.mul_assoc, Nat.mul_comm]
    have hr := sm_add (w := 0) (f := fF a0) (M := mN a0 X * 2 ^ 3) (V := mN a0 Y * 2 ^ 3) (k := k) (A := mN a0 X * 2 ^ k + mN a0 Y) (by omega) (fun h => by rw [hpp]; have := k4 (by have := hk4 h; omega); omega) (by rw [Nat.mul_comm (2 ^ k), h8]; omega)
    have hsg : sg (if (0 : Int64) ≤ xb a0 X then (0 : Int32) else (if lN (mN a0 X * 2 ^ 3 + St (mN a0 Y * 2 ^ 3) k) = (0 : Int64) then (if (0 : Int64) ≤ xb a0 Y then (0 : Int32) else (1 : Int32)) else (1 : Int32))) = sN2 a0 X := by
      rw [x_sw a0 hX, x_sw a0 hY, hs]
      cases sN2 a0 Y
      · rfl
      · simp only [if_true]
        split <;> rfl
    rw [r_near a0 _ (by omega) (by omega) (by omega) (Or.inl (by omega)), hsg]
    show _ = xb a0 (Jvm.FP.Core.encode (fF a0) (Jvm.FP.Core.roundRatio (fF a0) (sN2 a0 X) (mN a0 X * 2 ^ k + mN a0 Y) 1 (eN a0 Y)))
    rw [sm_round hr]
  · have c00 : (0 : Int32) = 0 := rfl
    simp only [if_neg hs, if_pos c00, if_true]
    have h8 : mN a0 X * 2 ^ 3 * 2 ^ k = 8 * (mN a0 X * 2 ^ k) := by rw [Nat.mul_assoc, Nat.mul_comm (2 ^ 3), ← Nat.mul_assoc, Nat.mul_comm]
    have hr := sm_sub (f := fF a0) (M := mN a0 X * 2 ^ 3) (V := mN a0 Y * 2 ^ 3) (k := k) (A := mN a0 X * 2 ^ k - mN a0 Y) (by omega) (fun h => by rw [hpp]; have := k4 (by have := hk4 h; omega); have := hStB h; omega) (by rw [Nat.mul_comm (2 ^ k), h8]; omega)
    obtain ⟨hr0, hr⟩ := hr
    rw [lN_sub hr0]
    have hz : mN a0 X * 2 ^ 3 - St (mN a0 Y * 2 ^ 3) k = 0 ↔ mN a0 X * 2 ^ k - mN a0 Y = 0 := by
      rcases hr with g | ⟨g1, g2, g3, g4⟩
      · constructor
        · intro w; rw [w, Nat.zero_mul] at g; omega
        · intro w
          rw [w] at g
          rcases Nat.mul_eq_zero.mp g with z | z
          · exact z
          · omega
      · constructor
        · intro w; omega
        · intro w; rw [w] at g2; omega
    have hsg : sg (if (0 : Int64) ≤ xb a0 X then (0 : Int32) else (if lN (mN a0 X * 2 ^ 3 - St (mN a0 Y * 2 ^ 3) k) = (0 : Int64) then (if (0 : Int64) ≤ xb a0 Y then (0 : Int32) else (1 : Int32)) else (1 : Int32))) = (if mN a0 X * 2 ^ k - mN a0 Y = 0 then false else sN2 a0 X) := by
      have hl : (lN (mN a0 X * 2 ^ 3 - St (mN a0 Y * 2 ^ 3) k) = (0 : Int64)) ↔ mN a0 X * 2 ^ k - mN a0 Y = 0 := (l_eq (b := 0) (by omega) (by decide)).trans hz
      rw [x_sw a0 hX, x_sw a0 hY]
      simp only [hl]
      have hs2 : sN2 a0 Y = !sN2 a0 X := by cases hh : sN2 a0 X <;> cases hh2 : sN2 a0 Y <;> simp_all
      rw [hs2]
      cases sN2 a0 X
      · simp only [Bool.false_eq_true, if_false]
        split <;> rfl
      · simp only [if_true, Bool.not_true, Bool.false_eq_true, if_false]
        split <;> rfl
    rw [r_near a0 _ (by omega) (by omega) (by omega) (Or.inl (by omega)), hsg]
    show _ = xb a0 (Jvm.FP.Core.encode (fF a0) (Jvm.FP.Core.roundRatio (fF a0) _ (mN a0 X * 2 ^ k - mN a0 Y) 1 (eN a0 Y)))
    rw [sm_round hr]
theorem o_sum (a0 : Int32) {X Y : Nat} (hX : X < 2 * 2 ^ hN a0) (hY : Y < 2 * 2 ^ hN a0) (fX : X % 2 ^ hN a0 < iN a0) (fY : Y % 2 ^ hN a0 < iN a0) : jX4_sum a0 (xb a0 X) (xb a0 Y) = xb a0 (Jvm.FP.Core.add (fF a0) X Y) := by
  have b1 := p_hb a0
  have b3 := Nat.mod_lt X (Nat.two_pow_pos (hN a0))
  have b4 := Nat.mod_lt Y (Nat.two_pow_pos (hN a0))
  unfold jX4_sum jX4_sum_y1 jX4_sum_y3
  rw [x_size a0 hX, x_size a0 hY]
  by_cases h : X % 2 ^ hN a0 < Y % 2 ^ hN a0
  · have hc : lN (X % 2 ^ hN a0) < lN (Y % 2 ^ hN a0) := (l_lt (by omega) (by omega)).mpr h
    rw [if_pos hc, if_pos rfl, if_pos rfl, o_sum5 a0 _ _ _ hY hX fY fX (by omega)]
    unfold Jvm.FP.Core.add
    rw [Jvm.FP.Core.exactSum_comm]
  · have hc : ¬ lN (X % 2 ^ hN a0) < lN (Y % 2 ^ hN a0) := fun w => h ((l_lt (by omega) (by omega)).mp w)
    rw [if_neg hc, if_neg (by decide), if_neg (by decide), o_sum5 a0 _ _ _ hX hY fX fY (by omega)]
end
section
/-! the quotient: sixty binary digits of it, the last of them for what is left -/
theorem l_div {a b : Nat} (ha : a < 9223372036854775808) (hb : b < 9223372036854775808) : lN a / lN b = lN (a / b) := by
  apply Int64.toInt_inj.mp
  have h1 := l_toInt ha
  have h2 := l_toInt hb
  have h3 : a / b < 9223372036854775808 := Nat.lt_of_le_of_lt (Nat.div_le_self _ _) ha
  have hne : lN a ≠ Int64.minValue := by
    intro q
    rw [q] at h1
    have : Int64.minValue.toInt = -9223372036854775808 := by decide
    omega
  rw [Int64.toInt_div_of_ne_left _ _ hne, h1, h2, l_toInt h3]
  rw [Int.tdiv_eq_ediv_of_nonneg (by omega)]
  rfl
theorem l_rem {a b : Nat} (ha : a < 9223372036854775808) (hb : b < 9223372036854775808) : lN a - lN a / lN b * lN b = lN (a % b) := by
  rw [l_div ha hb, lN_mul, lN_sub (Nat.div_mul_le_self a b)]
  congr 1
  have := Nat.div_add_mod a b
  rw [Nat.mul_comm] at this
  omega
/-- one step of the long division -/
theorem q_step {R r D : Nat} (hD : D < 9007199254740992) (hr : r < D) (hR : R < 18014398509481984) : (lN R <<< ((10 : Int32).toInt64 &&& 63) ||| (lN r <<< ((10 : Int32).toInt64 &&& 63)) / lN D) = lN (R * 1024 + r * 1024 / D) ∧ (lN r <<< ((10 : Int32).toInt64 &&& 63)) - (lN r <<< ((10 : Int32).toInt64 &&& 63)) / lN D * lN D = lN (r * 1024 % D) := by
  have e : ∀ m : Nat, lN m <<< ((10 : Int32).toInt64 &&& 63) = lN (m * 1024) := fun m => wb_shl m (k := 10) (by decide)
  rw [e, e, l_rem (by omega) (by omega), l_div (by omega) (by omega)]
  have hq : r * 1024 / D < 2 ^ 10 := by
    rw [Nat.div_lt_iff_lt_mul (by omega)]
    omega
  refine ⟨?_, rfl⟩
  have := p_or (i := 10) (a := R) (b := r * 1024 / D) hq (by omega)
  rw [Int64.or_comm, Nat.mul_comm R]
  exact this
/-- the invariant: over * 1024^k = by * R + r -/
theorem q_inv {O D R r : Nat} {P : Nat} (h : O * P = D * R + r) (hD : 0 < D) : O * (P * 1024) = D * (R * 1024 + r * 1024 / D) + r * 1024 % D := by
  have h1 := Nat.div_add_mod (r * 1024) D
  rw [← Nat.mul_assoc, h, Nat.add_mul, Nat.mul_add, Nat.add_assoc, h1, Nat.mul_assoc]
theorem q_bd {O D R r P : Nat} (h : O * P = D * R + r) (hO : O < 2 * D) (z : 0 < P) : R < 2 * P := by
  rcases Nat.lt_or_ge R (2 * P) with q | q
  · exact q
  · have h1 := Nat.mul_le_mul_left D q
    have h2 : O * P ≤ 2 * D * P := Nat.mul_le_mul_right P (by omega)
    have h3 := Nat.mul_lt_mul_of_pos_right hO z
    rw [show 2 * D * P = D * (2 * P) by rw [Nat.mul_comm 2, Nat.mul_assoc]] at h3
    omega
theorem q_next {O D R r P : Nat} (h : O * P = D * R + r) (hr : r < D) (hO : O < 2 * D) (hD : D < 9007199254740992) (hP : 0 < P) (hPb : 2 * P ≤ 18014398509481984) : ∃ R' r' : Nat, O * (P * 1024) = D * R' + r' ∧ r' < D ∧ (lN R <<< ((10 : Int32).toInt64 &&& 63) ||| (lN r <<< ((10 : Int32).toInt64 &&& 63)) / lN D) = lN R' ∧ (lN r <<< ((10 : Int32).toInt64 &&& 63)) - (lN r <<< ((10 : Int32).toInt64 &&& 63)) / lN D * lN D = lN r' := by
  have hDp : 0 < D := by omega
  have b := q_bd h hO hP
  exact ⟨_, _, q_inv h hDp, Nat.mod_lt _ hDp, q_step hD hr (by omega)⟩
set_option maxHeartbeats 2000000 in
/-- from the two mantissas of 53 digits on -/
theorem q_tail (a0 : Int32) (a1 a3 : Int64) (y1 y3 y5 : Int32) (y7 y8 : Int64) (y11 y12 : Int32) {O D : Nat} (hO : O < 9007199254740992) (hO2 : 4503599627370496 ≤ O) (hD : D < 9007199254740992) (hD2 : 4503599627370496 ≤ D) : ∃ R r : Nat, O * 1152921504606846976 = D * R + r ∧ r < D ∧ jX4_quotient_y14 a0 a1 a3 y1 y3 y5 y7 y8 y11 y12 (lN O) (lN D) = jX4_nearest a0 y5 (jX4_withMore (lN R) (lN r)) ((((jX4_exponent a0 a1) - y11) - (jX4_exponent a0 a3)) + y12 - (60 : Int32)) := by
  have hDp : 0 < D := by omega
  have hO3 : O < 2 * D := by omega
  have s0 : O * 1 = D * (O / D) + O % D := by rw [Nat.mul_one]; exact (Nat.div_add_mod O D).symm
  have r0 := Nat.mod_lt O hDp
  obtain ⟨R1, q1, s1, r1, g1, g2⟩ := q_next s0 r0 hO3 hD (by decide) (by decide)
  obtain ⟨R2, q2, s2, r2, g3, g4⟩ := q_next s1 r1 hO3 hD (by decide) (by decide)
  obtain ⟨R3, q3, s3, r3, g5, g6⟩ := q_next s2 r2 hO3 hD (by decide) (by decide)
  obtain ⟨R4, q4, s4, r4, g7, g8⟩ := q_next s3 r3 hO3 hD (by decide) (by decide)
  obtain ⟨R5, q5, s5, r5, g9, g10⟩ := q_next s4 r4 hO3 hD (by decide) (by decide)
  obtain ⟨R6, q6, s6, r6, g11, g12⟩ := q_next s5 r5 hO3 hD (by decide) (by decide)
  refine ⟨R6, q6, s6, r6, ?_⟩
  unfold jX4_quotient_y14 jX4_quotient_y15
  rw [l_rem (by omega) (by omega), l_div (by omega) (by omega)]
  unfold jX4_quotient_y16 jX4_quotient_y17 jX4_quotient_y18
  rw [g1, g2]
  unfold jX4_quotient_y19 jX4_quotient_y20 jX4_quotient_y21
  rw [g3, g4]
  unfold jX4_quotient_y22 jX4_quotient_y23 jX4_quotient_y24
  rw [g5, g6]
  unfold jX4_quotient_y25 jX4_quotient_y26 jX4_quotient_y27
  rw [g7, g8]
  unfold jX4_quotient_y28 jX4_quotient_y29 jX4_quotient_y30
  rw [g9, g10]
  unfold jX4_quotient_y31 jX4_quotient_y32 jX4_quotient_y33
  rw [g11, g12]
  unfold jX4_quotient_y34 jX4_quotient_y35
  rfl
end
section
theorem mN_0 (a0 : Int32) (N : Nat) : mN a0 N = 0 ↔ N % 2 ^ hN a0 = 0 := by
  obtain ⟨-, -, h3, -, -, -⟩ := wh_b a0
  have hp := Nat.two_pow_pos (wN a0)
  have hd : 2 ^ wN a0 ∣ 2 ^ hN a0 := Nat.pow_dvd_pow 2 (by omega)
  unfold mN
  rw [← Nat.mod_mod_of_dvd N hd]
  split
  · rename_i h
    rw [Nat.mod_eq_of_lt h]
  · omega
theorem b_xor (a0 a1 : Int32) {X Y : Nat} (hX : X < 2 * 2 ^ hN a0) (hY : Y < 2 * 2 ^ hN a0) : sg (if (if (0 : Int64) ≤ xb a0 X then (0 : Int32) else (1 : Int32)) = (if (0 : Int64) ≤ xb a0 Y then (0 : Int32) else (1 : Int32)) then (0 : Int32) else (1 : Int32)) = (sN2 a0 X != sN2 a0 Y) := by
  simp only [b_eq a0 hX hY]
  cases sN2 a0 X <;> cases sN2 a0 Y <;> decide
theorem z_round {f : Jvm.FP.Core.Fmt} {s : Bool} {d : Nat} {e : Int} : Jvm.FP.Core.roundRatio f s 0 d e = Jvm.FP.Core.roundRatio f s 0 1 0 := by
  unfold Jvm.FP.Core.roundRatio
  rw [if_pos rfl, if_pos rfl]
theorem z_signed (a0 neg : Int32) : jX4_signed a0 neg (0 : Int64) = xb a0 (Jvm.FP.Core.encode (fF a0) (Jvm.FP.Core.roundRatio (fF a0) (sg neg) 0 1 0)) := by
  have := r_near a0 neg (W := 0) (e := 0) (by decide) (by decide) (by decide) (Or.inl (by decide))
  unfold jX4_nearest at this
  rw [if_pos (show lN 0 = (0 : Int64) from rfl)] at this
  exact this
/-- sixty digits and a mark for the rest round as the ratio itself -/
theorem q_round {f : Jvm.FP.Core.Fmt} {s : Bool} {O D R r : Nat} {e : Int} (h : O * 1152921504606846976 = D * R + r) (hr : r < D) (hp : f.p ≤ 53) (hO2 : 4503599627370496 ≤ O) (hD : D < 9007199254740992) : Jvm.FP.Core.roundRatio f s (O * 1152921504606846976) D e = Jvm.FP.Core.roundRatio f s (if r = 0 then R else 2 * (R / 2) + 1) 1 e := by
  by_cases h0 : r = 0
  · rw [if_pos h0]
    refine Jvm.FP.Core.roundRatio_congr (by omega) (by decide) ?_
    rw [h, h0, Nat.add_zero, Nat.mul_one, Nat.mul_comm D R]
  · rw [if_neg h0]
    have hR : 576460752303423488 ≤ R := by
      rcases Nat.lt_or_ge R 576460752303423488 with q | q
      · have h1 := Nat.mul_le_mul_left D (show R + 1 ≤ 576460752303423488 by omega)
        rw [Nat.mul_add, Nat.mul_one] at h1
        omega
      · exact q
    have hb : 2 ^ (f.p + 1) ≤ 2 * (R / 2) + 1 := by
      have : 2 ^ (f.p + 1) ≤ 2 ^ 54 := Nat.pow_le_pow_right (by decide) (by omega)
      omega
    refine rd_odd s e (by omega) (by omega) ?_ ?_ hb
    · rw [show 2 * (R / 2) + 1 - 1 = 2 * (R / 2) by omega, h]
      have := Nat.mul_le_mul_left D (show 2 * (R / 2) ≤ R by omega)
      omega
    · rw [h]
      have := Nat.mul_le_mul_left D (show R + 1 ≤ 2 * (R / 2) + 1 + 1 by omega)
      rw [Nat.mul_add, Nat.mul_one] at this
      omega
theorem fp_53 (a0 : Int32) : (fF a0).p ≤ 53 := by rw [f_p]; have := wh_b a0; omega
set_option maxHeartbeats 1000000 in
theorem o_quot (a0 : Int32) {X Y : Nat} (hX : X < 2 * 2 ^ hN a0) (hY : Y < 2 * 2 ^ hN a0) (fX : X % 2 ^ hN a0 < iN a0) (fY : Y % 2 ^ hN a0 < iN a0) (hY0 : Y % 2 ^ hN a0 ≠ 0) : jX4_quotient a0 (xb a0 X) (xb a0 Y) = xb a0 (Jvm.FP.Core.div (fF a0) X Y) := by
  have mX := mN_53 a0 X
  have mY := mN_53 a0 Y
  have eX := eN_b a0 X
  have eY := eN_b a0 Y
  have hY1 : mN a0 Y ≠ 0 := fun q => hY0 ((mN_0 a0 Y).mp q)
  unfold jX4_quotient jX4_quotient_y1 jX4_quotient_y3 jX4_quotient_y5 jX4_quotient_y7 jX4_quotient_y8
  rw [x_mant a0 hX, x_mant a0 hY]
  unfold Jvm.FP.Core.div
  rw [dec_fin a0 hX fX, dec_fin a0 hY fY]
  unfold Jvm.FP.Core.quotient
  dsimp only
  rw [if_neg hY1]
  by_cases h0 : mN a0 X = 0
  · rw [if_pos (show lN (mN a0 X) = (0 : Int64) by rw [h0]; rfl), z_signed, b_xor a0 a0 hX hY, h0, z_round (d := mN a0 Y)]
  · rw [if_neg (show ¬ lN (mN a0 X) = (0 : Int64) from fun w => h0 ((l_eq (b := 0) (by omega) (by decide)).mp w)), if_neg (show ¬ lN (mN a0 Y) = (0 : Int64) from fun w => hY1 ((l_eq (b := 0) (by omega) (by decide)).mp w))]
    unfold jX4_quotient_y11 jX4_quotient_y12 jX4_quotient_y13
    rw [p_sh53 mX h0, p_sh53 mY hY1]
    obtain ⟨o1, o2⟩ := sN_lt h0 mX
    obtain ⟨d1, d2⟩ := sN_lt hY1 mY
    obtain ⟨R, r, q1, q2, q3⟩ := q_tail a0 (xb a0 X) (xb a0 Y) (if (0 : Int64) ≤ xb a0 X then (0 : Int32) else (1 : Int32)) (if (0 : Int64) ≤ xb a0 Y then (0 : Int32) else (1 : Int32)) (if (if (0 : Int64) ≤ xb a0 X then (0 : Int32) else (1 : Int32)) = (if (0 : Int64) ≤ xb a0 Y then (0 : Int32) else (1 : Int32)) then (0 : Int32) else (1 : Int32)) (lN (mN a0 X)) (lN (mN a0 Y)) ((53 : Int32) - jX4_lengthOf (lN (mN a0 X))) ((53 : Int32) - jX4_lengthOf (lN (mN a0 Y))) o1 o2 d1 d2
    rw [q3, x_exp a0 hX, x_exp a0 hY, r_len (by omega), r_len (by omega)]
    have bX : bN (mN a0 X) ≤ 53 := bN_le (k := 53) (by omega)
    have bY : bN (mN a0 Y) ≤ 53 := bN_le (k := 53) (by omega)
    have bX1 := (bN_spec h0).2.2
    have bY1 := (bN_spec hY1).2.2
    have ee : ((iI (eN a0 X) - ((53 : Int32) - nI (bN (mN a0 X)))) - iI (eN a0 Y)) + ((53 : Int32) - nI (bN (mN a0 Y))) - (60 : Int32) = iI (eN a0 X - (53 - bN (mN a0 X)) - eN a0 Y + (53 - bN (mN a0 Y)) - 60) := by
      rw [iI_n, iI_n, show (53 : Int32) = iI 53 by decide, show (60 : Int32) = iI 60 by decide, iI_sub, iI_sub, iI_sub, iI_sub, iI_add, iI_sub]
    have hRb : R < 2305843009213693952 := by
      have := q_bd (P := 1152921504606846976) q1 (by omega) (by decide)
      omega
    rw [ee, r_more (by omega) (by omega), r_near a0 _ (by split <;> omega) (by omega) (by omega) (Or.inl (by split <;> omega)), b_xor a0 a0 hX hY, ← q_round q1 q2 (fp_53 a0) o2 d1]
    refine congrArg (fun d => xb a0 (Jvm.FP.Core.encode (fF a0) d)) ?_
    refine Jvm.FP.Core.roundRatio_congr (by omega) (by omega) ?_
    unfold sN
    obtain ⟨a, ha⟩ : ∃ a : Nat, a = 53 - bN (mN a0 X) := ⟨_, rfl⟩
    obtain ⟨b, hb⟩ : ∃ b : Nat, b = 53 - bN (mN a0 Y) := ⟨_, rfl⟩
    rw [← ha, ← hb]
    have t1 : (eN a0 X - (53 - bN (mN a0 X)) - eN a0 Y + (53 - bN (mN a0 Y)) - 60 - (eN a0 X - eN a0 Y)).toNat = 0 := by omega
    have t2 : (eN a0 X - eN a0 Y - (eN a0 X - (53 - bN (mN a0 X)) - eN a0 Y + (53 - bN (mN a0 Y)) - 60)).toNat = a + 60 - b := by omega
    rw [t1, t2, Nat.pow_zero, Nat.mul_one]
    have t3 : 2 ^ b * 2 ^ (a + 60 - b) = 2 ^ a * 1152921504606846976 := by
      rw [← Nat.pow_add, show b + (a + 60 - b) = a + 60 by omega, Nat.pow_add]
    rw [show mN a0 X * (mN a0 Y * 2 ^ b) * 2 ^ (a + 60 - b) = mN a0 X * mN a0 Y * (2 ^ b * 2 ^ (a + 60 - b)) by ac_rfl, t3]
    ac_rfl
end
section
/-! what is left: the loop, then the remainder -/
theorem v_step {d S : Nat} (hd : d < 9007199254740992) (hS1 : 1 ≤ S) (hS2 : S < 64) (hdS : d * 2 ^ S ≤ 9223372036854775808) : ∀ (n : Nat) (k : Int) (r : Nat), r < d → k ≤ n → -100 ≤ k → k ≤ 5000 → jX4_leftOver_L (lN d) (nI S) n (iI k) (lN r) = lN (r * 2 ^ k.toNat % d) := by
  intro n
  have hend : ∀ (n : Nat) (k : Int) (r : Nat), r < d → -100 ≤ k → k ≤ 0 → jX4_leftOver_L (lN d) (nI S) n (iI k) (lN r) = lN (r * 2 ^ k.toNat % d) := by
    intro n k r hr h1 h2
    have hc : iI k ≤ (0 : Int32) := by
      rw [show (0 : Int32) = iI 0 by decide, iI_le (by omega) (by omega) (by omega) (by omega)]; exact h2
    rw [jX4_leftOver_L_le hc, show k.toNat = 0 by omega, Nat.pow_zero, Nat.mul_one, Nat.mod_eq_of_lt hr]
  induction n with
  | zero => intro k r hr h1 h2 h3; exact hend 0 k r hr h2 (by omega)
  | succ n ih =>
    intro k r hr h1 h2 h3
    rcases Int.lt_or_le 0 k with hk | hk
    · have hc : ¬ iI k ≤ (0 : Int32) := by
        rw [show (0 : Int32) = iI 0 by decide, iI_le (by omega) (by omega) (by omega) (by omega)]; omega
      have hmin : (if iI k < nI S then iI k else nI S) = nI (min S k.toNat) := by
        rw [iI_n S, iI_n (min S k.toNat)]
        split
        · rename_i h
          rw [iI_lt (by omega) (by omega) (by omega) (by omega)] at h
          congr 1; omega
        · rename_i h
          rw [iI_lt (by omega) (by omega) (by omega) (by omega)] at h
          congr 1; omega
      have hsh : r * 2 ^ min S k.toNat < 9223372036854775808 := by
        have h4 : 2 ^ min S k.toNat ≤ 2 ^ S := Nat.pow_le_pow_right (by decide) (Nat.min_le_left _ _)
        have h5 := Nat.mul_le_mul_left r h4
        have h6 := Nat.mul_lt_mul_of_pos_right hr (Nat.two_pow_pos S)
        omega
      have hsub : iI k - nI S = iI (k - S) := by rw [iI_n, iI_sub]
      rw [jX4_leftOver_L_succ hc, hmin, wb_shl r (by omega), l_rem hsh (by omega), hsub]
      have hr2 : r * 2 ^ min S k.toNat % d < d := Nat.mod_lt _ (by omega)
      rw [ih (k - S) _ hr2 (by omega) (by omega) (by omega)]
      congr 1
      rw [Nat.mod_mul_mod, Nat.mul_assoc, ← Nat.pow_add]
      congr 3
      omega
    · exact hend _ k r hr h2 hk
theorem n_step (d : Nat) (hd : d < 9007199254740992) (hd0 : d ≠ 0) : ∃ S : Nat, (if (10 : Int32) < (jJ13_numberOfLeadingZeros_95d88 (lN d) - (1 : Int32)) then (jJ13_numberOfLeadingZeros_95d88 (lN d) - (1 : Int32)) else (10 : Int32)) = nI S ∧ 1 ≤ S ∧ S < 64 ∧ d * 2 ^ S ≤ 9223372036854775808 := by
  have hl : d.log2 < 53 := (Nat.log2_lt hd0).mpr (by omega)
  have hlt := Nat.lt_log2_self (n := d)
  rw [nz_long (by omega), if_neg hd0]
  have e1 : nI (63 - d.log2) - (1 : Int32) = nI (63 - d.log2 - 1) := pk_sub (a := 63 - d.log2) (b := 1) (by omega)
  rw [e1]
  split
  · refine ⟨_, rfl, by omega, by omega, ?_⟩
    have h6 := Nat.mul_le_mul_right (2 ^ (63 - d.log2 - 1)) (Nat.le_of_lt hlt)
    rw [← Nat.pow_add, show d.log2 + 1 + (63 - d.log2 - 1) = 63 by omega] at h6
    omega
  · exact ⟨10, rfl, by decide, by decide, by omega⟩
theorem ord_lt (a0 : Int32) {X Y : Nat} (h : Y % 2 ^ hN a0 < X % 2 ^ hN a0) {k : Nat} (hk : eN a0 X = eN a0 Y + k) (k4 : 0 < k → 2 ^ wN a0 ≤ mN a0 X) : mN a0 Y < mN a0 X * 2 ^ k := by
  obtain ⟨-, -, h3, -, -, -⟩ := wh_b a0
  have hp := Nat.two_pow_pos (wN a0)
  have hY1 := mN_lt a0 Y
  rcases Nat.eq_zero_or_pos k with z | z
  · subst z
    rw [Nat.pow_zero, Nat.mul_one]
    have hd : 2 ^ wN a0 ∣ 2 ^ hN a0 := Nat.pow_dvd_pow 2 (by omega)
    unfold eN at hk
    unfold mN
    rw [← Nat.mod_mod_of_dvd X hd, ← Nat.mod_mod_of_dvd Y hd]
    generalize X % 2 ^ hN a0 = x at *
    generalize Y % 2 ^ hN a0 = y at *
    have m1 := Nat.div_le_div_right (c := 2 ^ wN a0) (Nat.le_of_lt h)
    have d1 := Nat.div_add_mod x (2 ^ wN a0)
    have d2 := Nat.div_add_mod y (2 ^ wN a0)
    have l1 := Nat.mod_lt x hp
    have l2 := Nat.mod_lt y hp
    by_cases q : x < 2 ^ wN a0
    · rw [if_pos q, if_pos (by omega), Nat.mod_eq_of_lt q, Nat.mod_eq_of_lt (by omega)]
      exact h
    · rw [if_neg q]
      by_cases q2 : y < 2 ^ wN a0
      · rw [if_pos q2]; omega
      · rw [if_neg q2]
        have a1 : 1 ≤ x / 2 ^ wN a0 := (Nat.le_div_iff_mul_le hp).mpr (by omega)
        have a2 : 1 ≤ y / 2 ^ wN a0 := (Nat.le_div_iff_mul_le hp).mpr (by omega)
        have a3 : x / 2 ^ wN a0 = y / 2 ^ wN a0 := by omega
        rw [a3] at d1
        omega
  · have h1 := k4 z
    have h2 : 2 ≤ 2 ^ k := Nat.le_trans (by decide) (Nat.pow_le_pow_right (show 0 < 2 by decide) z)
    have h3 := Nat.mul_le_mul h1 h2
    rw [Nat.pow_succ] at hY1
    omega
theorem enc_back (a0 : Int32) {X : Nat} (hX : X < 2 * 2 ^ hN a0) (fX : X % 2 ^ hN a0 < iN a0) : Jvm.FP.Core.encode (fF a0) (Jvm.FP.Core.round (fF a0) (.fin (sN2 a0 X) (mN a0 X) (eN a0 X))) = X := by
  rw [← dec_fin a0 hX fX, Jvm.FP.Core.round_of_fits (f_good a0) (Jvm.FP.Core.decode_fits (f_good a0) X)]
  refine Jvm.FP.Core.encode_decode (f_good a0) X (by rw [f_size]; exact hX) ?_
  rw [dec_fin a0 hX fX]
  exact fun h => by cases h
theorem o_rem (a0 : Int32) {X Y : Nat} (hX : X < 2 * 2 ^ hN a0) (hY : Y < 2 * 2 ^ hN a0) (fX : X % 2 ^ hN a0 < iN a0) (nY : Y % 2 ^ hN a0 ≤ iN a0) (hY0 : Y % 2 ^ hN a0 ≠ 0) : jX4_leftOver a0 (xb a0 X) (xb a0 Y) = xb a0 (Jvm.FP.Core.rem (fF a0) X Y) := by
  have mX := mN_53 a0 X
  have mY := mN_53 a0 Y
  have eX := eN_b a0 X
  have eY := eN_b a0 Y
  have b1 := p_hb a0
  have b3 := Nat.mod_lt X (Nat.two_pow_pos (hN a0))
  have b4 := Nat.mod_lt Y (Nat.two_pow_pos (hN a0))
  have hY1 : mN a0 Y ≠ 0 := fun q => hY0 ((mN_0 a0 Y).mp q)
  unfold jX4_leftOver jX4_leftOver_y1
  rw [x_mant a0 hX, x_mant a0 hY, if_neg (show ¬ lN (mN a0 Y) = (0 : Int64) from fun w => hY1 ((l_eq (b := 0) (by omega) (by decide)).mp w)), x_size a0 hX, x_size a0 hY]
  unfold Jvm.FP.Core.rem
  rw [dec_fin a0 hX fX]
  by_cases h : Y % 2 ^ hN a0 ≤ X % 2 ^ hN a0
  · have fY : Y % 2 ^ hN a0 < iN a0 := by omega
    obtain ⟨k, k1, k2, k3, k4⟩ := ord_e a0 h
    rw [if_pos ((l_le (by omega) (by omega)).mpr h)]
    unfold jX4_leftOver_y4 jX4_leftOver_y5 jX4_leftOver_y6 jX4_leftOver_T jX4_leftOver_y7
    obtain ⟨S, s1, s2, s3, s4⟩ := n_step (mN a0 Y) mY hY1
    rw [s1, x_exp a0 hX, x_exp a0 hY, iI_sub, l_rem (by omega) (by omega), v_step mY s2 s3 s4 4096 _ _ (Nat.mod_lt _ (by omega)) (by omega) (by omega) (by omega), Nat.mod_mul_mod, show (eN a0 X - eN a0 Y).toNat = k by omega]
    have hlt : mN a0 X * 2 ^ k % mN a0 Y < mN a0 Y := Nat.mod_lt _ (by omega)
    rw [r_near a0 _ (by omega) (by omega) (by omega) (Or.inl (by omega)), x_sg a0 hX, dec_fin a0 hY fY]
    unfold Jvm.FP.Core.exactRemainder
    dsimp only
    rw [if_neg hY1, show min (eN a0 X) (eN a0 Y) = eN a0 Y by omega]
    unfold Jvm.FP.Core.inUnits
    rw [show (eN a0 X - eN a0 Y).toNat = k by omega, show (eN a0 Y - eN a0 Y).toNat = 0 by omega, Nat.pow_zero, Nat.mul_one]
    rfl
  · rw [if_neg (fun w => h ((l_le (by omega) (by omega)).mp w))]
    congr 1
    by_cases fY : Y % 2 ^ hN a0 < iN a0
    · obtain ⟨k, k1, k2, k3, k4⟩ := ord_e a0 (show X % 2 ^ hN a0 ≤ Y % 2 ^ hN a0 by omega)
      have hlt := ord_lt a0 (show X % 2 ^ hN a0 < Y % 2 ^ hN a0 by omega) k1 k4
      rw [dec_fin a0 hY fY]
      unfold Jvm.FP.Core.exactRemainder
      dsimp only
      rw [if_neg hY1, show min (eN a0 X) (eN a0 Y) = eN a0 X by omega]
      unfold Jvm.FP.Core.inUnits
      rw [show (eN a0 Y - eN a0 X).toNat = k by omega, show (eN a0 X - eN a0 X).toNat = 0 by omega, Nat.pow_zero, Nat.mul_one, Nat.mod_eq_of_lt hlt]
      exact (enc_back a0 hX fX).symm
    · rw [dec_inf a0 hY (by omega)]
      exact (enc_back a0 hX fX).symm
end
section
/-! a double times a whole number; a double with its sign turned -/
theorem f_1 : fF 1 = Jvm.FP.Core.b64 := by decide
theorem h_1 : hN 1 = 63 := by decide
theorem w_1 : wN 1 = 52 := by decide
theorem q_1 : qN 1 = -1074 := by decide
theorem f_0 : fF 0 = Jvm.FP.Core.b32 := by decide
theorem h_0 : hN 0 = 31 := by decide
theorem xb_1 (N : Nat) : xb 1 N = lN N := by unfold xb; rw [if_neg (by decide)]
theorem xb_0 (N : Nat) : xb 0 N = (nI N).toInt64 := by unfold xb; rw [if_pos rfl]
/-- a whole number below 2^53 as a double: nothing is lost -/
theorem of_small (s : Bool) {n : Nat} (h0 : n ≠ 0) (hn : n < 9007199254740992) : Jvm.FP.Core.roundRatio (fF 1) s n 1 0 = .fin s (n * 2 ^ (52 - n.log2)) ((n.log2 : Int) - 52) := by
  have hl : n.log2 < 53 := (Nat.log2_lt h0).mpr (by omega)
  have l1 := Nat.log2_self_le h0
  have l2 := Nat.lt_log2_self (n := n)
  have u1 := Nat.mul_le_mul_right (2 ^ (52 - n.log2)) l1
  have u2 := Nat.mul_lt_mul_of_pos_right l2 (Nat.two_pow_pos (52 - n.log2))
  rw [← Nat.pow_add, show n.log2 + (52 - n.log2) = 52 by omega] at u1
  rw [← Nat.pow_add, show n.log2 + 1 + (52 - n.log2) = 53 by omega] at u2
  refine Jvm.FP.Core.roundRatio_exact (f_good 1) Nat.one_pos ?_ ?_
  · rw [f_1]
    refine ⟨u2, ?_, ?_, Or.inr u1⟩
    · have : Jvm.FP.Core.b64.qmin = -1074 := by decide
      omega
    · have : Jvm.FP.Core.b64.qmax = 971 := by decide
      omega
  · rw [show ((0 : Int) - ((n.log2 : Int) - 52)).toNat = 52 - n.log2 by omega, show ((n.log2 : Int) - 52 - 0).toNat = 0 by omega, Nat.pow_zero, Nat.mul_one, Nat.mul_one]
theorem i_sg (n : Int32) : sg (if (0 : Int32) ≤ n then (0 : Int32) else (1 : Int32)) = decide (n.toInt < 0) := by
  unfold sg
  by_cases h : (0 : Int32) ≤ n
  · rw [if_pos h]
    rw [Int32.le_iff_toInt_le] at h
    have h : (0 : Int) ≤ n.toInt := h
    rw [decide_eq_false (by decide), decide_eq_false (by omega)]
  · rw [if_neg h]
    rw [Int32.le_iff_toInt_le] at h
    have h : ¬ (0 : Int) ≤ n.toInt := h
    rw [decide_eq_true (by decide), decide_eq_true (by omega)]
theorem sg_x {c1 c2 : Prop} [Decidable c1] [Decidable c2] : sg (if (if c1 then (0 : Int32) else (1 : Int32)) = (if c2 then (0 : Int32) else (1 : Int32)) then (0 : Int32) else (1 : Int32)) = (sg (if c1 then (0 : Int32) else (1 : Int32)) != sg (if c2 then (0 : Int32) else (1 : Int32))) := by
  by_cases h1 : c1 <;> by_cases h2 : c2 <;> simp only [h1, h2, if_true, if_false] <;> decide
theorem o_times {X : Nat} {n : Int32} (hX : X < 2 * 2 ^ hN 1) (fX : X % 2 ^ hN 1 < iN 1) (hn : n.toInt.natAbs ≤ 2048) : jX4_timesInt (xb 1 X) n = xb 1 (Jvm.FP.Core.mul (fF 1) X (Jvm.FP.Core.fromInt (fF 1) n.toInt)) := by
  have mX := mN_53 1 X
  have eX := eN_b 1 X
  obtain ⟨d1, d2, d3⟩ := dec_ok 1 hX fX
  unfold jX4_timesInt jX4_timesInt_y1 jX4_timesInt_y3 jX4_timesInt_y5
  have hW : mN 1 X * n.toInt.natAbs < 2 ^ 64 := by
    have := Nat.mul_le_mul_left (mN 1 X) hn
    omega
  rw [x_mant 1 hX, x_exp 1 hX, l_abs, Int32.toInt_toInt64, lN_mul, r_near 1 _ hW (by omega) (by omega) (Or.inr d2), sg_x, x_sg 1 hX, i_sg]
  unfold Jvm.FP.Core.mul Jvm.FP.Core.fromInt
  rw [Jvm.FP.Core.decode_encode (f_good 1) _ (Jvm.FP.Core.round_fits (f_good 1) _), dec_fin 1 hX fX]
  refine congrArg (fun d => xb 1 (Jvm.FP.Core.encode (fF 1) d)) ?_
  unfold Jvm.FP.Core.ofInt
  show _ = Jvm.FP.Core.round (fF 1) (Jvm.FP.Core.exactProduct _ (Jvm.FP.Core.roundRatio (fF 1) (decide (n.toInt < 0)) n.toInt.natAbs 1 0))
  by_cases h0 : n.toInt.natAbs = 0
  · have hz : Jvm.FP.Core.roundRatio (fF 1) (decide (n.toInt < 0)) 0 1 0 = .fin (decide (n.toInt < 0)) 0 (fF 1).qmin := by
      unfold Jvm.FP.Core.roundRatio
      rw [if_pos rfl]
    rw [h0, hz, Nat.mul_zero]
    show _ = Jvm.FP.Core.roundRatio (fF 1) (sN2 1 X != decide (n.toInt < 0)) (mN 1 X * 0) 1 (eN 1 X + (fF 1).qmin)
    rw [Nat.mul_zero, z_round (e := eN 1 X), z_round (e := eN 1 X + (fF 1).qmin)]
  · rw [of_small _ h0 (by omega)]
    have hl : n.toInt.natAbs.log2 < 53 := (Nat.log2_lt h0).mpr (by omega)
    unfold Jvm.FP.Core.exactProduct Jvm.FP.Core.round
    dsimp only
    refine Jvm.FP.Core.roundRatio_congr Nat.one_pos Nat.one_pos ?_
    generalize n.toInt.natAbs.log2 = lg at *
    rw [show (eN 1 X - (eN 1 X + ((lg : Int) - 52))).toNat = 52 - lg by omega, show (eN 1 X + ((lg : Int) - 52) - eN 1 X).toNat = 0 by omega, Nat.pow_zero, Nat.mul_one, Nat.mul_one, Nat.mul_one, Nat.mul_assoc]
def ngN (X : Nat) : Nat := if X < 9223372036854775808 then X + 9223372036854775808 else X - 9223372036854775808
theorem ng_x {r : Nat} (hr : r < 9223372036854775808) : (9223372036854775808 + r) ^^^ 9223372036854775808 = r := by
  apply Nat.eq_of_testBit_eq
  intro i
  rw [show (9223372036854775808 : Nat) = 2 ^ 63 by decide] at *
  rw [Nat.testBit_xor, Nat.testBit_two_pow]
  rcases Nat.lt_trichotomy i 63 with h | h | h
  · rw [Nat.testBit_two_pow_add_gt h]
    simp [show ¬ 63 = i by omega]
  · subst h
    rw [Nat.testBit_two_pow_add_eq]
    simp
  · have a1 : 2 ^ (63 + 1) ≤ 2 ^ i := Nat.pow_le_pow_right (by decide) h
    rw [Nat.testBit_lt_two_pow (show 2 ^ 63 + r < 2 ^ i by omega), Nat.testBit_lt_two_pow (show r < 2 ^ i by omega)]
    simp [show ¬ 63 = i by omega]
theorem o_neg {X : Nat} (hX : X < 2 ^ 64) : jX4_negated (xb 1 X) = xb 1 (ngN X) ∧ ngN X < 2 ^ 64 := by
  rw [xb_1, xb_1]
  unfold jX4_negated
  have hx : X ^^^ 9223372036854775808 = ngN X := by
    unfold ngN
    split
    · rename_i h
      have := ng_x h
      have h2 := congrArg (fun z => z ^^^ 9223372036854775808) this
      simp only [Nat.xor_assoc, Nat.xor_self, Nat.xor_zero] at h2
      omega
    · obtain ⟨r, rfl⟩ : ∃ r, X = 9223372036854775808 + r := ⟨X - 9223372036854775808, by omega⟩
      rw [ng_x (by omega)]
      omega
  have hb : ngN X < 2 ^ 64 := by unfold ngN; split <;> omega
  refine ⟨?_, hb⟩
  apply wb_inj
  rw [Int64.toBitVec_xor, wb_tb, wb_tb]
  apply BitVec.eq_of_toNat_eq
  show ((BitVec.ofNat 64 X) ^^^ (BitVec.ofNat 64 9223372036854775808)).toNat = _
  rw [BitVec.toNat_xor, BitVec.toNat_ofNat, BitVec.toNat_ofNat, BitVec.toNat_ofNat, Nat.mod_eq_of_lt hX, Nat.mod_eq_of_lt (by decide), hx, Nat.mod_eq_of_lt hb]
theorem ng_mod (X : Nat) (hX : X < 2 ^ 64) : ngN X % 2 ^ hN 1 = X % 2 ^ hN 1 := by
  rw [h_1]
  unfold ngN
  split <;> omega
theorem ng_dec {X : Nat} (hX : X < 2 * 2 ^ hN 1) (fX : X % 2 ^ hN 1 < iN 1) : Jvm.FP.Core.decode (fF 1) (ngN X) = Jvm.FP.Core.negate (Jvm.FP.Core.decode (fF 1) X) := by
  rw [h_1] at hX
  have hX' : X < 2 ^ 64 := by omega
  have hm := ng_mod X hX'
  have hb : ngN X < 2 * 2 ^ hN 1 := by rw [h_1]; unfold ngN; split <;> omega
  rw [dec_fin 1 hb (by rw [hm]; exact fX), dec_fin 1 (by rw [h_1]; omega) fX]
  unfold Jvm.FP.Core.negate
  dsimp only
  rw [mN_mod 1 hm, eN_mod 1 hm]
  congr 1
  unfold sN2 ngN
  rw [h_1]
  by_cases h : X < 9223372036854775808
  · rw [if_pos h, decide_eq_true (by omega), decide_eq_false (by omega)]; rfl
  · rw [if_neg h, decide_eq_false (by omega), decide_eq_true (by omega)]; rfl
end
