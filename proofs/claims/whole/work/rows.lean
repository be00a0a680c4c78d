section
-- ===== PART A: goes FIRST, ahead of the names: the tables' words, and 'selects' of the private methods out of them =====
/-- a private method of a class that the tables say can be made, by its rows of tables_1 -/
def lw_okq (q : MethodName × Nat) : Prop := (q.1.cls ≠ "java/lang/invoke/MethodHandle" ∧ q.1.cls ≠ "java/lang/invoke/VarHandle") ∧ Cond.instantiable q.1.cls q.2 ∈ tables_1 ∧ Cond.privateMethod q.1 ∈ tables_1 ∧ Cond.instanceMethod q.1 ∈ tables_1
theorem lw_p0 : lw_okq (⟨"OrreryDials", "dialAt", "(I)LOrreryDials$Dial;"⟩, 10) := ⟨⟨by decide +kernel, by decide +kernel⟩, List.mem_of_getElem? (i := 16) (by decide +kernel), List.mem_of_getElem? (i := 128) (by decide +kernel), List.mem_of_getElem? (i := 129) (by decide +kernel)⟩
theorem lw_p1 : lw_okq (⟨"OrreryDials", "done", "(I)I"⟩, 10) := ⟨⟨by decide +kernel, by decide +kernel⟩, List.mem_of_getElem? (i := 16) (by decide +kernel), List.mem_of_getElem? (i := 194) (by decide +kernel), List.mem_of_getElem? (i := 195) (by decide +kernel)⟩
theorem lw_p2 : lw_okq (⟨"OrreryDials", "failWith", "(I)I"⟩, 10) := ⟨⟨by decide +kernel, by decide +kernel⟩, List.mem_of_getElem? (i := 16) (by decide +kernel), List.mem_of_getElem? (i := 198) (by decide +kernel), List.mem_of_getElem? (i := 199) (by decide +kernel)⟩
theorem lw_p3 : lw_okq (⟨"OrreryDials", "driveAt", "(I)LOrreryDials$Drive;"⟩, 10) := ⟨⟨by decide +kernel, by decide +kernel⟩, List.mem_of_getElem? (i := 16) (by decide +kernel), List.mem_of_getElem? (i := 285) (by decide +kernel), List.mem_of_getElem? (i := 286) (by decide +kernel)⟩
theorem lw_p4 : lw_okq (⟨"OrreryDials", "rowAt", "(IZ)LOrreryDials$Row;"⟩, 10) := ⟨⟨by decide +kernel, by decide +kernel⟩, List.mem_of_getElem? (i := 16) (by decide +kernel), List.mem_of_getElem? (i := 364) (by decide +kernel), List.mem_of_getElem? (i := 365) (by decide +kernel)⟩
theorem lw_p5 : lw_okq (⟨"OrreryDialsModel", "isDial", "(I)Z"⟩, 20) := ⟨⟨by decide +kernel, by decide +kernel⟩, List.mem_of_getElem? (i := 450) (by decide +kernel), List.mem_of_getElem? (i := 551) (by decide +kernel), List.mem_of_getElem? (i := 552) (by decide +kernel)⟩
theorem lw_p6 : lw_okq (⟨"OrreryDialsModel", "goes", "(IJ)Z"⟩, 20) := ⟨⟨by decide +kernel, by decide +kernel⟩, List.mem_of_getElem? (i := 450) (by decide +kernel), List.mem_of_getElem? (i := 558) (by decide +kernel), List.mem_of_getElem? (i := 559) (by decide +kernel)⟩
theorem lw_p7 : lw_okq (⟨"OrreryDialsModel", "goesDouble", "(ID)Z"⟩, 20) := ⟨⟨by decide +kernel, by decide +kernel⟩, List.mem_of_getElem? (i := 450) (by decide +kernel), List.mem_of_getElem? (i := 562) (by decide +kernel), List.mem_of_getElem? (i := 563) (by decide +kernel)⟩
theorem lw_p8 : lw_okq (⟨"OrreryDialsModel", "goesFloat", "(IF)Z"⟩, 20) := ⟨⟨by decide +kernel, by decide +kernel⟩, List.mem_of_getElem? (i := 450) (by decide +kernel), List.mem_of_getElem? (i := 571) (by decide +kernel), List.mem_of_getElem? (i := 572) (by decide +kernel)⟩
theorem lw_p9 : lw_okq (⟨"OrreryDialsModel", "done", "(I)I"⟩, 20) := ⟨⟨by decide +kernel, by decide +kernel⟩, List.mem_of_getElem? (i := 450) (by decide +kernel), List.mem_of_getElem? (i := 580) (by decide +kernel), List.mem_of_getElem? (i := 581) (by decide +kernel)⟩
theorem lw_p10 : lw_okq (⟨"OrreryDialsModel", "fails", "(I)I"⟩, 20) := ⟨⟨by decide +kernel, by decide +kernel⟩, List.mem_of_getElem? (i := 450) (by decide +kernel), List.mem_of_getElem? (i := 584) (by decide +kernel), List.mem_of_getElem? (i := 585) (by decide +kernel)⟩
theorem lw_p11 : lw_okq (⟨"OrreryDialsModel", "isDrive", "(I)Z"⟩, 20) := ⟨⟨by decide +kernel, by decide +kernel⟩, List.mem_of_getElem? (i := 450) (by decide +kernel), List.mem_of_getElem? (i := 638) (by decide +kernel), List.mem_of_getElem? (i := 639) (by decide +kernel)⟩
theorem lw_p12 : lw_okq (⟨"OrreryDialsModel", "pullCause", "(II)I"⟩, 20) := ⟨⟨by decide +kernel, by decide +kernel⟩, List.mem_of_getElem? (i := 450) (by decide +kernel), List.mem_of_getElem? (i := 646) (by decide +kernel), List.mem_of_getElem? (i := 647) (by decide +kernel)⟩
theorem lw_p13 : lw_okq (⟨"OrreryDialsModel", "hauls", "(II)Z"⟩, 20) := ⟨⟨by decide +kernel, by decide +kernel⟩, List.mem_of_getElem? (i := 450) (by decide +kernel), List.mem_of_getElem? (i := 650) (by decide +kernel), List.mem_of_getElem? (i := 651) (by decide +kernel)⟩
theorem lw_p14 : lw_okq (⟨"OrreryDialsModel", "cause", "(II)I"⟩, 20) := ⟨⟨by decide +kernel, by decide +kernel⟩, List.mem_of_getElem? (i := 450) (by decide +kernel), List.mem_of_getElem? (i := 697) (by decide +kernel), List.mem_of_getElem? (i := 698) (by decide +kernel)⟩
def lw_privs_1 : List (MethodName × Nat) := [(⟨"OrreryDials", "dialAt", "(I)LOrreryDials$Dial;"⟩, 10), (⟨"OrreryDials", "done", "(I)I"⟩, 10), (⟨"OrreryDials", "failWith", "(I)I"⟩, 10), (⟨"OrreryDials", "driveAt", "(I)LOrreryDials$Drive;"⟩, 10), (⟨"OrreryDials", "rowAt", "(IZ)LOrreryDials$Row;"⟩, 10), (⟨"OrreryDialsModel", "isDial", "(I)Z"⟩, 20), (⟨"OrreryDialsModel", "goes", "(IJ)Z"⟩, 20), (⟨"OrreryDialsModel", "goesDouble", "(ID)Z"⟩, 20), (⟨"OrreryDialsModel", "goesFloat", "(IF)Z"⟩, 20), (⟨"OrreryDialsModel", "done", "(I)I"⟩, 20), (⟨"OrreryDialsModel", "fails", "(I)I"⟩, 20), (⟨"OrreryDialsModel", "isDrive", "(I)Z"⟩, 20), (⟨"OrreryDialsModel", "pullCause", "(II)I"⟩, 20), (⟨"OrreryDialsModel", "hauls", "(II)Z"⟩, 20), (⟨"OrreryDialsModel", "cause", "(II)I"⟩, 20)]
theorem lw_r1 : ∀ q ∈ lw_privs_1, lw_okq q := List.forall_mem_cons.mpr ⟨lw_p0, List.forall_mem_cons.mpr ⟨lw_p1, List.forall_mem_cons.mpr ⟨lw_p2, List.forall_mem_cons.mpr ⟨lw_p3, List.forall_mem_cons.mpr ⟨lw_p4, List.forall_mem_cons.mpr ⟨lw_p5, List.forall_mem_cons.mpr ⟨lw_p6, List.forall_mem_cons.mpr ⟨lw_p7, List.forall_mem_cons.mpr ⟨lw_p8, List.forall_mem_cons.mpr ⟨lw_p9, List.forall_mem_cons.mpr ⟨lw_p10, List.forall_mem_cons.mpr ⟨lw_p11, List.forall_mem_cons.mpr ⟨lw_p12, List.forall_mem_cons.mpr ⟨lw_p13, List.forall_mem_cons.mpr ⟨lw_p14, fun _ h => absurd h List.not_mem_nil⟩⟩⟩⟩⟩⟩⟩⟩⟩⟩⟩⟩⟩⟩⟩
def lw_privs : List (MethodName × Nat) := lw_privs_1
def lw_tbl : List Cond := k2_sels lw_privs ++ tables_1
theorem lw_privs_ok : ∀ q ∈ lw_privs, lw_okq q := lw_r1
/-! ===== BEGIN words of one list among another's, by their places ===== -/
theorem goodIn_r {big : List Cond} (ws : List Cond) (ps : List Nat) (hp : ws = ps.filterMap (fun i => big[i]?)) (h : ws.all goodWord = true) : GoodIn big ws := by
  intro w hw
  have h1 := List.all_eq_true.mp h w hw
  rw [hp] at hw
  obtain ⟨i, -, hi⟩ := List.mem_filterMap.mp hw
  have hm : w ∈ big := by first | exact List.mem_of_getElem? hi | exact List.getElem?_mem hi
  exact ⟨hm, good_of_word h1⟩
theorem goodIn_app {big a b : List Cond} (ha : GoodIn big a) (hb : GoodIn big b) : GoodIn big (a ++ b) := fun w h => (List.mem_append.mp h).elim (ha w) (hb w)
theorem goodIn_ca {big a b : List Cond} {c : Cond} (ha : GoodIn big (c :: a)) (hb : GoodIn big b) : GoodIn big (c :: (a ++ b)) := fun w h => (List.mem_cons.mp h).elim (fun e => ha w (List.mem_cons.mpr (Or.inl e))) (fun h => (List.mem_append.mp h).elim (fun h => ha w (List.mem_cons.mpr (Or.inr h))) (hb w))
theorem goodIn_sub {big ws : List Cond} (hm : ∀ w ∈ ws, w ∈ big) (h : ws.all goodWord = true) : GoodIn big ws := fun w hw => ⟨hm w hw, good_of_word (List.all_eq_true.mp h w hw)⟩
/-! ===== END ===== -/

/-! ===== BEGIN printed: names, fields, word lists, decode rows ===== -/
def RX0 : String := "OrreryDials$Crank"
def TX0 : u_T := fun k => match k with
  | 0 => ("OrreryDials$Drive", "number", "I", true)
  | 1 => ("OrreryDials$Drive", "pull", "J", true)
  | 2 => ("OrreryDials$Drive", "pullCount", "I", false)
  | _ => ("OrreryDials$Crank", "gear", "I", false)
def tyX0 : Nat → FieldType := fun k => match k with
  | 0 => .int
  | 1 => .long
  | 2 => .int
  | _ => .int
abbrev wsX00 : List Cond := u_ws RX0 TX0 4
theorem nmX0 : ∀ a, a < 4 → ∀ b, b < 4 → a ≠ b → (TX0 a).2.1 ≠ (TX0 b).2.1 := by decide +kernel
theorem tyX0_ok : ∀ k, k < 4 → parseFieldDescriptor (TX0 k).2.2.1 = some (tyX0 k) := by decide +kernel
abbrev cX0_init : ByteArray := prog_2_method_1_code
def yX0_init : MethodName := ⟨RX0, "<init>", "(IJ)V"⟩
abbrev cX0_forceAt : ByteArray := prog_2_method_2_code
def yX0_forceAt : MethodName := ⟨RX0, "forceAt", "(J)J"⟩
def RX1 : String := "OrreryDials$Dial"
def TX1 : u_T := fun k => match k with
  | 0 => ("OrreryDials$Dial", "fine", "Z", true)
  | 1 => ("OrreryDials$Dial", "rim", "J", true)
  | 2 => ("OrreryDials$Dial", "place", "J", false)
  | _ => ("OrreryDials$Dial", "laps", "J", false)
def tyX1 : Nat → FieldType := fun k => match k with
  | 0 => .boolean
  | 1 => .long
  | 2 => .long
  | _ => .long
abbrev wsX10 : List Cond := u_ws RX1 TX1 4
theorem nmX1 : ∀ a, a < 4 → ∀ b, b < 4 → a ≠ b → (TX1 a).2.1 ≠ (TX1 b).2.1 := by decide +kernel
theorem tyX1_ok : ∀ k, k < 4 → parseFieldDescriptor (TX1 k).2.2.1 = some (tyX1 k) := by decide +kernel
abbrev cX1_init : ByteArray := prog_3_method_1_code
def yX1_init : MethodName := ⟨RX1, "<init>", "(ZJ)V"⟩
abbrev cX1_turnBy : ByteArray := prog_3_method_2_code
def yX1_turnBy : MethodName := ⟨RX1, "turnBy", "(J)Z"⟩
def RX2 : String := "OrreryDials$Drive"
def TX2 : u_T := fun k => match k with
  | _ => ("", "", "", false)
def tyX2 : Nat → FieldType := fun k => match k with
  | _ => .int
abbrev wsX20 : List Cond := u_ws RX2 TX2 0
theorem nmX2 : ∀ a, a < 0 → ∀ b, b < 0 → a ≠ b → (TX2 a).2.1 ≠ (TX2 b).2.1 := by decide +kernel
theorem tyX2_ok : ∀ k, k < 0 → parseFieldDescriptor (TX2 k).2.2.1 = some (tyX2 k) := by decide +kernel
abbrev cX2_init : ByteArray := prog_4_method_1_code
def yX2_init : MethodName := ⟨RX2, "<init>", "(IJ)V"⟩
abbrev cX2_pullAt : ByteArray := prog_4_method_3_code
def yX2_pullAt : MethodName := ⟨RX2, "pullAt", "(LOrreryDials$Dial;)Z"⟩
def RX3 : String := "OrreryDials$Flywheel"
def TX3 : u_T := fun k => match k with
  | 0 => ("OrreryDials$Crank", "gear", "I", false)
  | 1 => ("OrreryDials$Drive", "number", "I", true)
  | 2 => ("OrreryDials$Drive", "pull", "J", true)
  | _ => ("OrreryDials$Drive", "pullCount", "I", false)
def tyX3 : Nat → FieldType := fun k => match k with
  | 0 => .int
  | 1 => .int
  | 2 => .long
  | _ => .int
abbrev wsX30 : List Cond := u_ws RX3 TX3 4
theorem nmX3 : ∀ a, a < 4 → ∀ b, b < 4 → a ≠ b → (TX3 a).2.1 ≠ (TX3 b).2.1 := by decide +kernel
theorem tyX3_ok : ∀ k, k < 4 → parseFieldDescriptor (TX3 k).2.2.1 = some (tyX3 k) := by decide +kernel
abbrev cX3_init : ByteArray := prog_5_method_1_code
def yX3_init : MethodName := ⟨RX3, "<init>", "(IJ)V"⟩
abbrev cX3_forceAt : ByteArray := prog_5_method_2_code
def yX3_forceAt : MethodName := ⟨RX3, "forceAt", "(J)J"⟩
def RX4 : String := "OrreryDials$Reals"
def TX4 : u_T := fun k => match k with
  | _ => ("", "", "", false)
def tyX4 : Nat → FieldType := fun k => match k with
  | _ => .int
abbrev wsX40 : List Cond := u_ws RX4 TX4 0
theorem nmX4 : ∀ a, a < 0 → ∀ b, b < 0 → a ≠ b → (TX4 a).2.1 ≠ (TX4 b).2.1 := by decide +kernel
theorem tyX4_ok : ∀ k, k < 0 → parseFieldDescriptor (TX4 k).2.2.1 = some (tyX4 k) := by decide +kernel
abbrev cX4_told : ByteArray := prog_6_method_2_code
def yX4_told : MethodName := ⟨RX4, "told", "(ZJ)J"⟩
abbrev cX4_isNumber : ByteArray := prog_6_method_3_code
def yX4_isNumber : MethodName := ⟨RX4, "isNumber", "(ZJ)Z"⟩
abbrev cX4_isFit : ByteArray := prog_6_method_4_code
def yX4_isFit : MethodName := ⟨RX4, "isFit", "(ZJ)Z"⟩
abbrev cX4_isZero : ByteArray := prog_6_method_5_code
def yX4_isZero : MethodName := ⟨RX4, "isZero", "(ZJ)Z"⟩
abbrev cX4_negated : ByteArray := prog_6_method_6_code
def yX4_negated : MethodName := ⟨RX4, "negated", "(J)J"⟩
abbrev cX4_sum : ByteArray := prog_6_method_7_code
def yX4_sum : MethodName := ⟨RX4, "sum", "(ZJJ)J"⟩
abbrev cX4_quotient : ByteArray := prog_6_method_8_code
def yX4_quotient : MethodName := ⟨RX4, "quotient", "(ZJJ)J"⟩
abbrev cX4_timesInt : ByteArray := prog_6_method_9_code
def yX4_timesInt : MethodName := ⟨RX4, "timesInt", "(JI)J"⟩
abbrev cX4_leftOver : ByteArray := prog_6_method_10_code
def yX4_leftOver : MethodName := ⟨RX4, "leftOver", "(ZJJ)J"⟩
abbrev cX4_ofLong : ByteArray := prog_6_method_11_code
def yX4_ofLong : MethodName := ⟨RX4, "ofLong", "(ZJ)J"⟩
abbrev cX4_ofReal : ByteArray := prog_6_method_12_code
def yX4_ofReal : MethodName := ⟨RX4, "ofReal", "(ZZJ)J"⟩
abbrev cX4_cutToLong : ByteArray := prog_6_method_13_code
def yX4_cutToLong : MethodName := ⟨RX4, "cutToLong", "(ZJ)J"⟩
abbrev cX4_nearest : ByteArray := prog_6_method_14_code
def yX4_nearest : MethodName := ⟨RX4, "nearest", "(ZZJI)J"⟩
abbrev cX4_rounded : ByteArray := prog_6_method_15_code
def yX4_rounded : MethodName := ⟨RX4, "rounded", "(JI)J"⟩
abbrev cX4_shiftedOut : ByteArray := prog_6_method_16_code
def yX4_shiftedOut : MethodName := ⟨RX4, "shiftedOut", "(JI)J"⟩
abbrev cX4_withMore : ByteArray := prog_6_method_17_code
def yX4_withMore : MethodName := ⟨RX4, "withMore", "(JJ)J"⟩
abbrev cX4_mantissa : ByteArray := prog_6_method_18_code
def yX4_mantissa : MethodName := ⟨RX4, "mantissa", "(ZJ)J"⟩
abbrev cX4_exponent : ByteArray := prog_6_method_19_code
def yX4_exponent : MethodName := ⟨RX4, "exponent", "(ZJ)I"⟩
abbrev cX4_sizeOf : ByteArray := prog_6_method_20_code
def yX4_sizeOf : MethodName := ⟨RX4, "sizeOf", "(ZJ)J"⟩
abbrev cX4_signed : ByteArray := prog_6_method_21_code
def yX4_signed : MethodName := ⟨RX4, "signed", "(ZZJ)J"⟩
abbrev cX4_endless : ByteArray := prog_6_method_22_code
def yX4_endless : MethodName := ⟨RX4, "endless", "(Z)J"⟩
abbrev cX4_width : ByteArray := prog_6_method_23_code
def yX4_width : MethodName := ⟨RX4, "width", "(Z)I"⟩
abbrev cX4_leastExponent : ByteArray := prog_6_method_24_code
def yX4_leastExponent : MethodName := ⟨RX4, "leastExponent", "(Z)I"⟩
abbrev cX4_lengthOf : ByteArray := prog_6_method_25_code
def yX4_lengthOf : MethodName := ⟨RX4, "lengthOf", "(J)I"⟩
def RX5 : String := "OrreryDials$Row"
def TX5 : u_T := fun k => match k with
  | 0 => ("OrreryDials$Row", "places", "[J", true)
  | _ => ("OrreryDials$Row", "size", "I", false)
def tyX5 : Nat → FieldType := fun k => match k with
  | 0 => .array .long
  | _ => .int
abbrev wsX50 : List Cond := u_ws RX5 TX5 2
theorem nmX5 : ∀ a, a < 2 → ∀ b, b < 2 → a ≠ b → (TX5 a).2.1 ≠ (TX5 b).2.1 := by decide +kernel
theorem tyX5_ok : ∀ k, k < 2 → parseFieldDescriptor (TX5 k).2.2.1 = some (tyX5 k) := by decide +kernel
abbrev cX5_init : ByteArray := prog_7_method_1_code
def yX5_init : MethodName := ⟨RX5, "<init>", "()V"⟩
abbrev cX5_renew : ByteArray := prog_7_method_2_code
def yX5_renew : MethodName := ⟨RX5, "renew", "(I)V"⟩
abbrev cX5_isMissing : ByteArray := prog_7_method_3_code
def yX5_isMissing : MethodName := ⟨RX5, "isMissing", "()Z"⟩
abbrev cX5_failureAt : ByteArray := prog_7_method_4_code
def yX5_failureAt : MethodName := ⟨RX5, "failureAt", "(I)I"⟩
def RX6 : String := "OrreryDials$Spring"
def TX6 : u_T := fun k => match k with
  | 0 => ("OrreryDials$Drive", "number", "I", true)
  | 1 => ("OrreryDials$Drive", "pull", "J", true)
  | _ => ("OrreryDials$Drive", "pullCount", "I", false)
def tyX6 : Nat → FieldType := fun k => match k with
  | 0 => .int
  | 1 => .long
  | _ => .int
abbrev wsX60 : List Cond := u_ws RX6 TX6 3
theorem nmX6 : ∀ a, a < 3 → ∀ b, b < 3 → a ≠ b → (TX6 a).2.1 ≠ (TX6 b).2.1 := by decide +kernel
theorem tyX6_ok : ∀ k, k < 3 → parseFieldDescriptor (TX6 k).2.2.1 = some (tyX6 k) := by decide +kernel
abbrev cX6_init : ByteArray := prog_8_method_1_code
def yX6_init : MethodName := ⟨RX6, "<init>", "(IJ)V"⟩
abbrev cX6_forceAt : ByteArray := prog_8_method_2_code
def yX6_forceAt : MethodName := ⟨RX6, "forceAt", "(J)J"⟩
def RX7 : String := "OrreryDials"
def TX7 : u_T := fun k => match k with
  | 0 => ("OrreryDials", "dials", "[LOrreryDials$Dial;", true)
  | 1 => ("OrreryDials", "dialCount", "I", false)
  | 2 => ("OrreryDials", "drives", "[LOrreryDials$Drive;", true)
  | 3 => ("OrreryDials", "driveCount", "I", false)
  | 4 => ("OrreryDials", "slots", "[LOrreryDials$Drive;", true)
  | 5 => ("OrreryDials", "shaftPlaces", "[LOrreryDials$Drive;", true)
  | 6 => ("OrreryDials", "rows", "[LOrreryDials$Row;", true)
  | 7 => ("OrreryDials", "seenBits", "J", false)
  | 8 => ("OrreryDials", "latestFailure", "I", false)
  | _ => ("OrreryDials", "failureCounts", "[I", true)
def tyX7 : Nat → FieldType := fun k => match k with
  | 0 => .array (.object "OrreryDials$Dial")
  | 1 => .int
  | 2 => .array (.object "OrreryDials$Drive")
  | 3 => .int
  | 4 => .array (.object "OrreryDials$Drive")
  | 5 => .array (.object "OrreryDials$Drive")
  | 6 => .array (.object "OrreryDials$Row")
  | 7 => .long
  | 8 => .int
  | _ => .array .int
abbrev wsX70 : List Cond := u_ws RX7 TX7 10
theorem nmX7 : ∀ a, a < 10 → ∀ b, b < 10 → a ≠ b → (TX7 a).2.1 ≠ (TX7 b).2.1 := by decide +kernel
theorem tyX7_ok : ∀ k, k < 10 → parseFieldDescriptor (TX7 k).2.2.1 = some (tyX7 k) := by decide +kernel
abbrev cX7_init : ByteArray := prog_1_method_1_code
def yX7_init : MethodName := ⟨RX7, "<init>", "()V"⟩
abbrev cX7_dial : ByteArray := prog_1_method_2_code
def yX7_dial : MethodName := ⟨RX7, "dial", "(ZJ)I"⟩
abbrev cX7_turn : ByteArray := prog_1_method_3_code
def yX7_turn : MethodName := ⟨RX7, "turn", "(IJ)I"⟩
abbrev cX7_spin : ByteArray := prog_1_method_4_code
def yX7_spin : MethodName := ⟨RX7, "spin", "(IJI)I"⟩
abbrev cX7_place : ByteArray := prog_1_method_5_code
def yX7_place : MethodName := ⟨RX7, "place", "(II)J"⟩
abbrev cX7_laps : ByteArray := prog_1_method_6_code
def yX7_laps : MethodName := ⟨RX7, "laps", "(I)J"⟩
abbrev cX7_fine : ByteArray := prog_1_method_7_code
def yX7_fine : MethodName := ⟨RX7, "fine", "(I)I"⟩
abbrev cX7_drive : ByteArray := prog_1_method_8_code
def yX7_drive : MethodName := ⟨RX7, "drive", "(IJ)I"⟩
abbrev cX7_fit : ByteArray := prog_1_method_9_code
def yX7_fit : MethodName := ⟨RX7, "fit", "(II)I"⟩
abbrev cX7_pull : ByteArray := prog_1_method_10_code
def yX7_pull : MethodName := ⟨RX7, "pull", "(II)I"⟩
abbrev cX7_gear : ByteArray := prog_1_method_11_code
def yX7_gear : MethodName := ⟨RX7, "gear", "(II)I"⟩
abbrev cX7_lay : ByteArray := prog_1_method_12_code
def yX7_lay : MethodName := ⟨RX7, "lay", "(III)I"⟩
abbrev cX7_wind : ByteArray := prog_1_method_13_code
def yX7_wind : MethodName := ⟨RX7, "wind", "(II)I"⟩
abbrev cX7_laid : ByteArray := prog_1_method_14_code
def yX7_laid : MethodName := ⟨RX7, "laid", "(II)I"⟩
abbrev cX7_pulls : ByteArray := prog_1_method_15_code
def yX7_pulls : MethodName := ⟨RX7, "pulls", "(I)I"⟩
abbrev cX7_log : ByteArray := prog_1_method_16_code
def yX7_log : MethodName := ⟨RX7, "log", "(IZI)I"⟩
abbrev cX7_write : ByteArray := prog_1_method_17_code
def yX7_write : MethodName := ⟨RX7, "write", "(IZIJ)I"⟩
abbrev cX7_read : ByteArray := prog_1_method_18_code
def yX7_read : MethodName := ⟨RX7, "read", "(IZI)I"⟩
abbrev cX7_seen : ByteArray := prog_1_method_19_code
def yX7_seen : MethodName := ⟨RX7, "seen", "()J"⟩
abbrev cX7_note : ByteArray := prog_1_method_20_code
def yX7_note : MethodName := ⟨RX7, "note", "(IZII)I"⟩
abbrev cX7_recall : ByteArray := prog_1_method_21_code
def yX7_recall : MethodName := ⟨RX7, "recall", "(IZII)I"⟩
abbrev cX7_sift : ByteArray := prog_1_method_22_code
def yX7_sift : MethodName := ⟨RX7, "sift", "(IZJ)I"⟩
abbrev cX7_cast : ByteArray := prog_1_method_23_code
def yX7_cast : MethodName := ⟨RX7, "cast", "(IIJ)I"⟩
abbrev cX7_left : ByteArray := prog_1_method_24_code
def yX7_left : MethodName := ⟨RX7, "left", "(ZJJ)I"⟩
abbrev cX7_failed : ByteArray := prog_1_method_25_code
def yX7_failed : MethodName := ⟨RX7, "failed", "()I"⟩
abbrev cX7_about : ByteArray := prog_1_method_26_code
def yX7_about : MethodName := ⟨RX7, "about", "(I)I"⟩
abbrev cX7_failWith : ByteArray := prog_1_method_27_code
def yX7_failWith : MethodName := ⟨RX7, "failWith", "(I)I"⟩
abbrev cX7_done : ByteArray := prog_1_method_28_code
def yX7_done : MethodName := ⟨RX7, "done", "(I)I"⟩
abbrev cX7_dialAt : ByteArray := prog_1_method_29_code
def yX7_dialAt : MethodName := ⟨RX7, "dialAt", "(I)LOrreryDials$Dial;"⟩
abbrev cX7_driveAt : ByteArray := prog_1_method_30_code
def yX7_driveAt : MethodName := ⟨RX7, "driveAt", "(I)LOrreryDials$Drive;"⟩
abbrev cX7_rowAt : ByteArray := prog_1_method_31_code
def yX7_rowAt : MethodName := ⟨RX7, "rowAt", "(IZ)LOrreryDials$Row;"⟩
abbrev cX7_isSlot : ByteArray := prog_1_method_32_code
def yX7_isSlot : MethodName := ⟨RX7, "isSlot", "(I)Z"⟩
abbrev cX7_isShaft : ByteArray := prog_1_method_33_code
def yX7_isShaft : MethodName := ⟨RX7, "isShaft", "(I)Z"⟩
abbrev cX7_isShaftPlace : ByteArray := prog_1_method_34_code
def yX7_isShaftPlace : MethodName := ⟨RX7, "isShaftPlace", "(I)Z"⟩
abbrev cX7_isKind : ByteArray := prog_1_method_35_code
def yX7_isKind : MethodName := ⟨RX7, "isKind", "(I)Z"⟩
abbrev cX7_isReal : ByteArray := prog_1_method_36_code
def yX7_isReal : MethodName := ⟨RX7, "isReal", "(I)Z"⟩
abbrev cX7_newDrive : ByteArray := prog_1_method_37_code
def yX7_newDrive : MethodName := ⟨RX7, "newDrive", "(IIJ)LOrreryDials$Drive;"⟩
abbrev cX7_castReal : ByteArray := prog_1_method_38_code
def yX7_castReal : MethodName := ⟨RX7, "castReal", "(IIJ)J"⟩
abbrev cX7_castWhole : ByteArray := prog_1_method_39_code
def yX7_castWhole : MethodName := ⟨RX7, "castWhole", "(IJ)J"⟩
def RX8 : String := "OrreryDialsModel"
def TX8 : u_T := fun k => match k with
  | 0 => ("OrreryDialsModel", "dials", "I", false)
  | 1 => ("OrreryDialsModel", "isFine", "[Z", true)
  | 2 => ("OrreryDialsModel", "rimF", "[F", true)
  | 3 => ("OrreryDialsModel", "placeF", "[F", true)
  | 4 => ("OrreryDialsModel", "rimD", "[D", true)
  | 5 => ("OrreryDialsModel", "placeD", "[D", true)
  | 6 => ("OrreryDialsModel", "lapsOf", "[J", true)
  | 7 => ("OrreryDialsModel", "drives", "I", false)
  | 8 => ("OrreryDialsModel", "sortOf", "[I", true)
  | 9 => ("OrreryDialsModel", "pullOf", "[D", true)
  | 10 => ("OrreryDialsModel", "gearOf", "[I", true)
  | 11 => ("OrreryDialsModel", "pulled", "[I", true)
  | 12 => ("OrreryDialsModel", "slots", "[I", true)
  | 13 => ("OrreryDialsModel", "shafts", "[I", true)
  | 14 => ("OrreryDialsModel", "many", "[I", true)
  | 15 => ("OrreryDialsModel", "floats", "[F", true)
  | 16 => ("OrreryDialsModel", "doubles", "[D", true)
  | 17 => ("OrreryDialsModel", "seen", "J", false)
  | 18 => ("OrreryDialsModel", "failed", "I", false)
  | _ => ("OrreryDialsModel", "counts", "[I", true)
def tyX8 : Nat → FieldType := fun k => match k with
  | 0 => .int
  | 1 => .array .boolean
  | 2 => .array .float
  | 3 => .array .float
  | 4 => .array .double
  | 5 => .array .double
  | 6 => .array .long
  | 7 => .int
  | 8 => .array .int
  | 9 => .array .double
  | 10 => .array .int
  | 11 => .array .int
  | 12 => .array .int
  | 13 => .array .int
  | 14 => .array .int
  | 15 => .array .float
  | 16 => .array .double
  | 17 => .long
  | 18 => .int
  | _ => .array .int
abbrev wsX80 : List Cond := u_ws RX8 TX8 20
theorem nmX8 : ∀ a, a < 20 → ∀ b, b < 20 → a ≠ b → (TX8 a).2.1 ≠ (TX8 b).2.1 := by decide +kernel
theorem tyX8_ok : ∀ k, k < 20 → parseFieldDescriptor (TX8 k).2.2.1 = some (tyX8 k) := by decide +kernel
abbrev cX8_init : ByteArray := prog_10_method_1_code
def yX8_init : MethodName := ⟨RX8, "<init>", "()V"⟩
abbrev cX8_in : ByteArray := prog_10_method_2_code
def yX8_in : MethodName := ⟨RX8, "in", "(JJJ)Z"⟩
abbrev cX8_done : ByteArray := prog_10_method_3_code
def yX8_done : MethodName := ⟨RX8, "done", "(I)I"⟩
abbrev cX8_fails : ByteArray := prog_10_method_4_code
def yX8_fails : MethodName := ⟨RX8, "fails", "(I)I"⟩
abbrev cX8_isFitFloat : ByteArray := prog_10_method_5_code
def yX8_isFitFloat : MethodName := ⟨RX8, "isFitFloat", "(J)Z"⟩
abbrev cX8_isFitDouble : ByteArray := prog_10_method_6_code
def yX8_isFitDouble : MethodName := ⟨RX8, "isFitDouble", "(J)Z"⟩
abbrev cX8_isFit : ByteArray := prog_10_method_7_code
def yX8_isFit : MethodName := ⟨RX8, "isFit", "(ZJ)Z"⟩
abbrev cX8_isNone : ByteArray := prog_10_method_8_code
def yX8_isNone : MethodName := ⟨RX8, "isNone", "(IJ)Z"⟩
abbrev cX8_isEndless : ByteArray := prog_10_method_9_code
def yX8_isEndless : MethodName := ⟨RX8, "isEndless", "(D)Z"⟩
abbrev cX8_isEndlessFloat : ByteArray := prog_10_method_10_code
def yX8_isEndlessFloat : MethodName := ⟨RX8, "isEndlessFloat", "(F)Z"⟩
abbrev cX8_floatOf : ByteArray := prog_10_method_11_code
def yX8_floatOf : MethodName := ⟨RX8, "floatOf", "(J)F"⟩
abbrev cX8_doubleOf : ByteArray := prog_10_method_12_code
def yX8_doubleOf : MethodName := ⟨RX8, "doubleOf", "(J)D"⟩
abbrev cX8_isDial : ByteArray := prog_10_method_13_code
def yX8_isDial : MethodName := ⟨RX8, "isDial", "(I)Z"⟩
abbrev cX8_dial : ByteArray := prog_10_method_14_code
def yX8_dial : MethodName := ⟨RX8, "dial", "(ZJ)I"⟩
abbrev cX8_goesFloat : ByteArray := prog_10_method_15_code
def yX8_goesFloat : MethodName := ⟨RX8, "goesFloat", "(IF)Z"⟩
abbrev cX8_goesDouble : ByteArray := prog_10_method_16_code
def yX8_goesDouble : MethodName := ⟨RX8, "goesDouble", "(ID)Z"⟩
abbrev cX8_goes : ByteArray := prog_10_method_17_code
def yX8_goes : MethodName := ⟨RX8, "goes", "(IJ)Z"⟩
abbrev cX8_turn : ByteArray := prog_10_method_18_code
def yX8_turn : MethodName := ⟨RX8, "turn", "(IJ)I"⟩
abbrev cX8_spin : ByteArray := prog_10_method_19_code
def yX8_spin : MethodName := ⟨RX8, "spin", "(IJI)I"⟩
abbrev cX8_place : ByteArray := prog_10_method_20_code
def yX8_place : MethodName := ⟨RX8, "place", "(II)J"⟩
abbrev cX8_laps : ByteArray := prog_10_method_21_code
def yX8_laps : MethodName := ⟨RX8, "laps", "(I)J"⟩
abbrev cX8_fine : ByteArray := prog_10_method_22_code
def yX8_fine : MethodName := ⟨RX8, "fine", "(I)I"⟩
abbrev cX8_isDrive : ByteArray := prog_10_method_23_code
def yX8_isDrive : MethodName := ⟨RX8, "isDrive", "(I)Z"⟩
abbrev cX8_isSlot : ByteArray := prog_10_method_24_code
def yX8_isSlot : MethodName := ⟨RX8, "isSlot", "(I)Z"⟩
abbrev cX8_isShaft : ByteArray := prog_10_method_25_code
def yX8_isShaft : MethodName := ⟨RX8, "isShaft", "(I)Z"⟩
abbrev cX8_drive : ByteArray := prog_10_method_26_code
def yX8_drive : MethodName := ⟨RX8, "drive", "(IJ)I"⟩
abbrev cX8_fit : ByteArray := prog_10_method_27_code
def yX8_fit : MethodName := ⟨RX8, "fit", "(II)I"⟩
abbrev cX8_hauls : ByteArray := prog_10_method_28_code
def yX8_hauls : MethodName := ⟨RX8, "hauls", "(II)Z"⟩
abbrev cX8_pullCause : ByteArray := prog_10_method_29_code
def yX8_pullCause : MethodName := ⟨RX8, "pullCause", "(II)I"⟩
abbrev cX8_pull : ByteArray := prog_10_method_30_code
def yX8_pull : MethodName := ⟨RX8, "pull", "(II)I"⟩
abbrev cX8_gear : ByteArray := prog_10_method_31_code
def yX8_gear : MethodName := ⟨RX8, "gear", "(II)I"⟩
abbrev cX8_lay : ByteArray := prog_10_method_32_code
def yX8_lay : MethodName := ⟨RX8, "lay", "(III)I"⟩
abbrev cX8_wind : ByteArray := prog_10_method_33_code
def yX8_wind : MethodName := ⟨RX8, "wind", "(II)I"⟩
abbrev cX8_laid : ByteArray := prog_10_method_34_code
def yX8_laid : MethodName := ⟨RX8, "laid", "(II)I"⟩
abbrev cX8_pulls : ByteArray := prog_10_method_35_code
def yX8_pulls : MethodName := ⟨RX8, "pulls", "(I)I"⟩
abbrev cX8_isLog : ByteArray := prog_10_method_36_code
def yX8_isLog : MethodName := ⟨RX8, "isLog", "(I)Z"⟩
abbrev cX8_rowOf : ByteArray := prog_10_method_37_code
def yX8_rowOf : MethodName := ⟨RX8, "rowOf", "(IZ)I"⟩
abbrev cX8_cause : ByteArray := prog_10_method_38_code
def yX8_cause : MethodName := ⟨RX8, "cause", "(II)I"⟩
abbrev cX8_log : ByteArray := prog_10_method_39_code
def yX8_log : MethodName := ⟨RX8, "log", "(IZI)I"⟩
abbrev cX8_write : ByteArray := prog_10_method_40_code
def yX8_write : MethodName := ⟨RX8, "write", "(IZIJ)I"⟩
abbrev cX8_read : ByteArray := prog_10_method_41_code
def yX8_read : MethodName := ⟨RX8, "read", "(IZI)I"⟩
abbrev cX8_seen : ByteArray := prog_10_method_42_code
def yX8_seen : MethodName := ⟨RX8, "seen", "()J"⟩
abbrev cX8_note : ByteArray := prog_10_method_43_code
def yX8_note : MethodName := ⟨RX8, "note", "(IZII)I"⟩
abbrev cX8_recall : ByteArray := prog_10_method_44_code
def yX8_recall : MethodName := ⟨RX8, "recall", "(IZII)I"⟩
abbrev cX8_sift : ByteArray := prog_10_method_45_code
def yX8_sift : MethodName := ⟨RX8, "sift", "(IZJ)I"⟩
abbrev cX8_castReal : ByteArray := prog_10_method_46_code
def yX8_castReal : MethodName := ⟨RX8, "castReal", "(DI)J"⟩
abbrev cX8_castWhole : ByteArray := prog_10_method_47_code
def yX8_castWhole : MethodName := ⟨RX8, "castWhole", "(JI)J"⟩
abbrev cX8_cast : ByteArray := prog_10_method_48_code
def yX8_cast : MethodName := ⟨RX8, "cast", "(IIJ)I"⟩
abbrev cX8_left : ByteArray := prog_10_method_49_code
def yX8_left : MethodName := ⟨RX8, "left", "(ZJJ)I"⟩
abbrev cX8_failed : ByteArray := prog_10_method_50_code
def yX8_failed : MethodName := ⟨RX8, "failed", "()I"⟩
abbrev cX8_about : ByteArray := prog_10_method_51_code
def yX8_about : MethodName := ⟨RX8, "about", "(I)I"⟩
def RJxe99ae : String := "java/lang/Double"
def TJxe99ae : u_T := fun k => match k with
  | _ => ("", "", "", false)
def tyJxe99ae : Nat → FieldType := fun k => match k with
  | _ => .int
abbrev wsJxe99ae0 : List Cond := u_ws RJxe99ae TJxe99ae 0
theorem nmJxe99ae : ∀ a, a < 0 → ∀ b, b < 0 → a ≠ b → (TJxe99ae a).2.1 ≠ (TJxe99ae b).2.1 := by decide +kernel
theorem tyJxe99ae_ok : ∀ k, k < 0 → parseFieldDescriptor (TJxe99ae k).2.2.1 = some (tyJxe99ae k) := by decide +kernel
abbrev cJxe99ae_isNaN_b9ae7 : ByteArray := prog_11_method_6_code
def yJxe99ae_isNaN_b9ae7 : MethodName := ⟨RJxe99ae, "isNaN", "(D)Z"⟩
abbrev cJxe99ae_doubleToLongBits_ccdee : ByteArray := prog_11_method_23_code
def yJxe99ae_doubleToLongBits_ccdee : MethodName := ⟨RJxe99ae, "doubleToLongBits", "(D)J"⟩
def RJxf58ca : String := "java/lang/Float"
def TJxf58ca : u_T := fun k => match k with
  | _ => ("", "", "", false)
def tyJxf58ca : Nat → FieldType := fun k => match k with
  | _ => .int
abbrev wsJxf58ca0 : List Cond := u_ws RJxf58ca TJxf58ca 0
theorem nmJxf58ca : ∀ a, a < 0 → ∀ b, b < 0 → a ≠ b → (TJxf58ca a).2.1 ≠ (TJxf58ca b).2.1 := by decide +kernel
theorem tyJxf58ca_ok : ∀ k, k < 0 → parseFieldDescriptor (TJxf58ca k).2.2.1 = some (tyJxf58ca k) := by decide +kernel
abbrev cJxf58ca_isNaN_12338 : ByteArray := prog_12_method_6_code
def yJxf58ca_isNaN_12338 : MethodName := ⟨RJxf58ca, "isNaN", "(F)Z"⟩
abbrev cJxf58ca_floatToIntBits_5c35a : ByteArray := prog_12_method_24_code
def yJxf58ca_floatToIntBits_5c35a : MethodName := ⟨RJxf58ca, "floatToIntBits", "(F)I"⟩
def RJ6 : String := "java/lang/Integer"
def TJ6 : u_T := fun k => match k with
  | _ => ("", "", "", false)
def tyJ6 : Nat → FieldType := fun k => match k with
  | _ => .int
abbrev wsJ60 : List Cond := u_ws RJ6 TJ6 0
theorem nmJ6 : ∀ a, a < 0 → ∀ b, b < 0 → a ≠ b → (TJ6 a).2.1 ≠ (TJ6 b).2.1 := by decide +kernel
theorem tyJ6_ok : ∀ k, k < 0 → parseFieldDescriptor (TJ6 k).2.2.1 = some (tyJ6 k) := by decide +kernel
abbrev cJ6_numberOfLeadingZeros_0f7a4 : ByteArray := prog_13_method_47_code
def yJ6_numberOfLeadingZeros_0f7a4 : MethodName := ⟨RJ6, "numberOfLeadingZeros", "(I)I"⟩
def RJ13 : String := "java/lang/Long"
def TJ13 : u_T := fun k => match k with
  | _ => ("", "", "", false)
def tyJ13 : Nat → FieldType := fun k => match k with
  | _ => .int
abbrev wsJ130 : List Cond := u_ws RJ13 TJ13 0
theorem nmJ13 : ∀ a, a < 0 → ∀ b, b < 0 → a ≠ b → (TJ13 a).2.1 ≠ (TJ13 b).2.1 := by decide +kernel
theorem tyJ13_ok : ∀ k, k < 0 → parseFieldDescriptor (TJ13 k).2.2.1 = some (tyJ13 k) := by decide +kernel
abbrev cJ13_numberOfLeadingZeros_95d88 : ByteArray := prog_14_method_48_code
def yJ13_numberOfLeadingZeros_95d88 : MethodName := ⟨RJ13, "numberOfLeadingZeros", "(J)I"⟩
def RJ9 : String := "java/lang/Math"
def TJ9 : u_T := fun k => match k with
  | _ => ("", "", "", false)
def tyJ9 : Nat → FieldType := fun k => match k with
  | _ => .int
abbrev wsJ90 : List Cond := u_ws RJ9 TJ9 0
theorem nmJ9 : ∀ a, a < 0 → ∀ b, b < 0 → a ≠ b → (TJ9 a).2.1 ≠ (TJ9 b).2.1 := by decide +kernel
theorem tyJ9_ok : ∀ k, k < 0 → parseFieldDescriptor (TJ9 k).2.2.1 = some (tyJ9 k) := by decide +kernel
abbrev cJ9_abs_067f4 : ByteArray := prog_15_method_61_code
def yJ9_abs_067f4 : MethodName := ⟨RJ9, "abs", "(J)J"⟩
abbrev cJ9_max_7cf53 : ByteArray := prog_15_method_65_code
def yJ9_max_7cf53 : MethodName := ⟨RJ9, "max", "(II)I"⟩
abbrev cJ9_max_f86c9 : ByteArray := prog_15_method_66_code
def yJ9_max_f86c9 : MethodName := ⟨RJ9, "max", "(JJ)J"⟩
abbrev cJ9_min_7cf53 : ByteArray := prog_15_method_69_code
def yJ9_min_7cf53 : MethodName := ⟨RJ9, "min", "(II)I"⟩
abbrev cJ9_min_f86c9 : ByteArray := prog_15_method_70_code
def yJ9_min_f86c9 : MethodName := ⟨RJ9, "min", "(JJ)J"⟩
def RL : String := "OrreryDialsLaw"
abbrev cL_law : ByteArray := code
def yL_law : MethodName := ⟨RL, "law", "([I)Z"⟩
def wsX2_init : List Cond := .code yX2_init cX2_init 4 none :: ([.methodLink RX2 1 objectInit, .instanceMethod objectInit, .code objectInit ⟨#[0xb1]⟩ 1 none, .fieldLink RX2 7 "OrreryDials$Drive" "pullCount" "I", .fieldLink RX2 13 "OrreryDials$Drive" "number" "I", .fieldLink RX2 16 "OrreryDials$Drive" "pull" "J"] ++ wsX00 ++ wsX30 ++ wsX60)
def wsX0_init : List Cond := .code yX0_init cX0_init 4 none :: ([.fieldLink RX0 7 "OrreryDials$Crank" "gear" "I", .methodLink RX0 1 yX2_init, .instanceMethod yX2_init, .initialized RX2, .code yX2_init cX2_init 4 none, .methodLink RX2 1 objectInit, .instanceMethod objectInit, .code objectInit ⟨#[0xb1]⟩ 1 none, .fieldLink RX2 7 "OrreryDials$Drive" "pullCount" "I", .fieldLink RX2 13 "OrreryDials$Drive" "number" "I", .fieldLink RX2 16 "OrreryDials$Drive" "pull" "J"] ++ wsX00 ++ wsX30 ++ wsX60)
def wsX4_width : List Cond := .code yX4_width cX4_width 1 (some .int) :: ([])
def wsX4_sizeOf : List Cond := .code yX4_sizeOf cX4_sizeOf 3 (some .long) :: ([.constantLong RX4 68 (9223372036854775807), .constantLong RX4 82 (2147483647)])
def wsX4_mantissa : List Cond := .code yX4_mantissa cX4_mantissa 7 (some .long) :: ([.methodLink RX4 74 yX4_width, .static yX4_width, .initialized RX4, .code yX4_width cX4_width 1 (some .int), .methodLink RX4 7 yX4_sizeOf, .static yX4_sizeOf, .code yX4_sizeOf cX4_sizeOf 3 (some .long), .constantLong RX4 68 (9223372036854775807), .constantLong RX4 82 (2147483647)])
def wsX4_leastExponent : List Cond := .code yX4_leastExponent cX4_leastExponent 1 (some .int) :: ([])
def wsX4_exponent : List Cond := .code yX4_exponent cX4_exponent 4 (some .int) :: ([.methodLink RX4 57 Lib.Math.max.name, .static Lib.Math.max.name, .initialized "java/lang/Math", .code Lib.Math.max.name Lib.Math.max.code 2 (some .int), .methodLink RX4 7 yX4_sizeOf, .static yX4_sizeOf, .initialized RX4, .code yX4_sizeOf cX4_sizeOf 3 (some .long), .constantLong RX4 68 (9223372036854775807), .constantLong RX4 82 (2147483647), .methodLink RX4 74 yX4_width, .static yX4_width, .code yX4_width cX4_width 1 (some .int), .methodLink RX4 70 yX4_leastExponent, .static yX4_leastExponent, .code yX4_leastExponent cX4_leastExponent 1 (some .int)])
def wsX4_signed : List Cond := .code yX4_signed cX4_signed 6 (some .long) :: ([.constantLong RX4 19 (-9223372036854775808), .constantLong RX4 84 (-2147483648)])
def wsJ6_numberOfLeadingZeros_0f7a4 : List Cond := .code yJ6_numberOfLeadingZeros_0f7a4 cJ6_numberOfLeadingZeros_0f7a4 2 (some .int) :: ([.constant RJ6 264 (65536)])
def wsJ13_numberOfLeadingZeros_95d88 : List Cond := .code yJ13_numberOfLeadingZeros_95d88 cJ13_numberOfLeadingZeros_95d88 3 (some .int) :: ([.methodLink RJ13 308 yJ6_numberOfLeadingZeros_0f7a4, .static yJ6_numberOfLeadingZeros_0f7a4, .initialized RJ6, .code yJ6_numberOfLeadingZeros_0f7a4 cJ6_numberOfLeadingZeros_0f7a4 2 (some .int), .constant RJ6 264 (65536)])
def wsX4_lengthOf : List Cond := .code yX4_lengthOf cX4_lengthOf 2 (some .int) :: ([.methodLink RX4 54 yJ13_numberOfLeadingZeros_95d88, .static yJ13_numberOfLeadingZeros_95d88, .initialized RJ13, .code yJ13_numberOfLeadingZeros_95d88 cJ13_numberOfLeadingZeros_95d88 3 (some .int), .methodLink RJ13 308 yJ6_numberOfLeadingZeros_0f7a4, .static yJ6_numberOfLeadingZeros_0f7a4, .initialized RJ6, .code yJ6_numberOfLeadingZeros_0f7a4 cJ6_numberOfLeadingZeros_0f7a4 2 (some .int), .constant RJ6 264 (65536)])
def wsX4_endless : List Cond := .code yX4_endless cX4_endless 1 (some .long) :: ([.constantLong RX4 86 (9218868437227405312), .constantLong RX4 88 (2139095040)])
def wsX4_rounded : List Cond := .code yX4_rounded cX4_rounded 10 (some .long) :: ([])
def wsX4_nearest_r1 : List Cond := [Cond.methodLink RX4 57 Lib.Math.max.name, Cond.static Lib.Math.max.name, Cond.initialized "java/lang/Math", Cond.code Lib.Math.max.name Lib.Math.max.code 2 (some .int), Cond.methodLink RX4 36 yX4_signed, Cond.static yX4_signed, Cond.initialized RX4, Cond.code yX4_signed cX4_signed 6 (some .long), Cond.constantLong RX4 19 (-9223372036854775808), Cond.constantLong RX4 84 (-2147483648), Cond.methodLink RX4 70 yX4_leastExponent, Cond.static yX4_leastExponent, Cond.code yX4_leastExponent cX4_leastExponent 1 (some .int), Cond.methodLink RX4 40 yX4_lengthOf, Cond.static yX4_lengthOf, Cond.code yX4_lengthOf cX4_lengthOf 2 (some .int), Cond.methodLink RX4 54 yJ13_numberOfLeadingZeros_95d88, Cond.static yJ13_numberOfLeadingZeros_95d88, Cond.initialized RJ13, Cond.code yJ13_numberOfLeadingZeros_95d88 cJ13_numberOfLeadingZeros_95d88 3 (some .int), Cond.methodLink RJ13 308 yJ6_numberOfLeadingZeros_0f7a4, Cond.static yJ6_numberOfLeadingZeros_0f7a4, Cond.initialized RJ6, Cond.code yJ6_numberOfLeadingZeros_0f7a4 cJ6_numberOfLeadingZeros_0f7a4 2 (some .int)]
def wsX4_nearest_r2 : List Cond := [Cond.constant RJ6 264 (65536), Cond.methodLink RX4 74 yX4_width, Cond.static yX4_width, Cond.code yX4_width cX4_width 1 (some .int), Cond.methodLink RX4 13 yX4_endless, Cond.static yX4_endless, Cond.code yX4_endless cX4_endless 1 (some .long), Cond.constantLong RX4 86 (9218868437227405312), Cond.constantLong RX4 88 (2139095040), Cond.methodLink RX4 77 yX4_rounded, Cond.static yX4_rounded, Cond.code yX4_rounded cX4_rounded 10 (some .long)]
def wsX4_nearest : List Cond := .code yX4_nearest cX4_nearest 13 (some .long) :: ((wsX4_nearest_r1 ++ wsX4_nearest_r2))
def wsX4_timesInt_r1 : List Cond := [Cond.methodLink RX4 48 Lib.MathLoose.abs_long.x, Cond.static Lib.MathLoose.abs_long.x, Cond.initialized "java/lang/Math", Cond.code Lib.MathLoose.abs_long.x Lib.MathLoose.abs_long.code 2 (some .long), Cond.methodLink RX4 21 yX4_mantissa, Cond.static yX4_mantissa, Cond.initialized RX4, Cond.code yX4_mantissa cX4_mantissa 7 (some .long), Cond.methodLink RX4 74 yX4_width, Cond.static yX4_width, Cond.code yX4_width cX4_width 1 (some .int), Cond.methodLink RX4 7 yX4_sizeOf, Cond.static yX4_sizeOf, Cond.code yX4_sizeOf cX4_sizeOf 3 (some .long), Cond.constantLong RX4 68 (9223372036854775807), Cond.constantLong RX4 82 (2147483647), Cond.methodLink RX4 24 yX4_exponent, Cond.static yX4_exponent, Cond.code yX4_exponent cX4_exponent 4 (some .int), Cond.methodLink RX4 57 Lib.Math.max.name, Cond.static Lib.Math.max.name, Cond.code Lib.Math.max.name Lib.Math.max.code 2 (some .int), Cond.methodLink RX4 70 yX4_leastExponent, Cond.static yX4_leastExponent]
def wsX4_timesInt_r2 : List Cond := [Cond.code yX4_leastExponent cX4_leastExponent 1 (some .int), Cond.methodLink RX4 32 yX4_nearest, Cond.static yX4_nearest, Cond.code yX4_nearest cX4_nearest 13 (some .long), Cond.methodLink RX4 36 yX4_signed, Cond.static yX4_signed, Cond.code yX4_signed cX4_signed 6 (some .long), Cond.constantLong RX4 19 (-9223372036854775808), Cond.constantLong RX4 84 (-2147483648), Cond.methodLink RX4 40 yX4_lengthOf, Cond.static yX4_lengthOf, Cond.code yX4_lengthOf cX4_lengthOf 2 (some .int), Cond.methodLink RX4 54 yJ13_numberOfLeadingZeros_95d88, Cond.static yJ13_numberOfLeadingZeros_95d88, Cond.initialized RJ13, Cond.code yJ13_numberOfLeadingZeros_95d88 cJ13_numberOfLeadingZeros_95d88 3 (some .int), Cond.methodLink RJ13 308 yJ6_numberOfLeadingZeros_0f7a4, Cond.static yJ6_numberOfLeadingZeros_0f7a4, Cond.initialized RJ6, Cond.code yJ6_numberOfLeadingZeros_0f7a4 cJ6_numberOfLeadingZeros_0f7a4 2 (some .int), Cond.constant RJ6 264 (65536), Cond.methodLink RX4 13 yX4_endless, Cond.static yX4_endless, Cond.code yX4_endless cX4_endless 1 (some .long)]
def wsX4_timesInt_r3 : List Cond := [Cond.constantLong RX4 86 (9218868437227405312), Cond.constantLong RX4 88 (2139095040), Cond.methodLink RX4 77 yX4_rounded, Cond.static yX4_rounded, Cond.code yX4_rounded cX4_rounded 10 (some .long)]
def wsX4_timesInt : List Cond := .code yX4_timesInt cX4_timesInt 4 (some .long) :: ((wsX4_timesInt_r1 ++ (wsX4_timesInt_r2 ++ wsX4_timesInt_r3)))
def wsX0_forceAt_r1 : List Cond := [Cond.fieldLink RX0 13 "OrreryDials$Crank" "pull" "J", Cond.sameField "OrreryDials$Crank" "OrreryDials$Drive" "pull" "J", Cond.fieldLink RX0 7 "OrreryDials$Crank" "gear" "I", Cond.methodLink RX0 17 yX4_timesInt, Cond.static yX4_timesInt, Cond.initialized RX4, Cond.code yX4_timesInt cX4_timesInt 4 (some .long), Cond.methodLink RX4 48 Lib.MathLoose.abs_long.x, Cond.static Lib.MathLoose.abs_long.x, Cond.initialized "java/lang/Math", Cond.code Lib.MathLoose.abs_long.x Lib.MathLoose.abs_long.code 2 (some .long), Cond.methodLink RX4 21 yX4_mantissa, Cond.static yX4_mantissa, Cond.code yX4_mantissa cX4_mantissa 7 (some .long), Cond.methodLink RX4 74 yX4_width, Cond.static yX4_width, Cond.code yX4_width cX4_width 1 (some .int), Cond.methodLink RX4 7 yX4_sizeOf, Cond.static yX4_sizeOf, Cond.code yX4_sizeOf cX4_sizeOf 3 (some .long), Cond.constantLong RX4 68 (9223372036854775807), Cond.constantLong RX4 82 (2147483647), Cond.methodLink RX4 24 yX4_exponent, Cond.static yX4_exponent]
def wsX0_forceAt_r2 : List Cond := [Cond.code yX4_exponent cX4_exponent 4 (some .int), Cond.methodLink RX4 57 Lib.Math.max.name, Cond.static Lib.Math.max.name, Cond.code Lib.Math.max.name Lib.Math.max.code 2 (some .int), Cond.methodLink RX4 70 yX4_leastExponent, Cond.static yX4_leastExponent, Cond.code yX4_leastExponent cX4_leastExponent 1 (some .int), Cond.methodLink RX4 32 yX4_nearest, Cond.static yX4_nearest, Cond.code yX4_nearest cX4_nearest 13 (some .long), Cond.methodLink RX4 36 yX4_signed, Cond.static yX4_signed, Cond.code yX4_signed cX4_signed 6 (some .long), Cond.constantLong RX4 19 (-9223372036854775808), Cond.constantLong RX4 84 (-2147483648), Cond.methodLink RX4 40 yX4_lengthOf, Cond.static yX4_lengthOf, Cond.code yX4_lengthOf cX4_lengthOf 2 (some .int), Cond.methodLink RX4 54 yJ13_numberOfLeadingZeros_95d88, Cond.static yJ13_numberOfLeadingZeros_95d88, Cond.initialized RJ13, Cond.code yJ13_numberOfLeadingZeros_95d88 cJ13_numberOfLeadingZeros_95d88 3 (some .int), Cond.methodLink RJ13 308 yJ6_numberOfLeadingZeros_0f7a4, Cond.static yJ6_numberOfLeadingZeros_0f7a4]
def wsX0_forceAt_r3 : List Cond := [Cond.initialized RJ6, Cond.code yJ6_numberOfLeadingZeros_0f7a4 cJ6_numberOfLeadingZeros_0f7a4 2 (some .int), Cond.constant RJ6 264 (65536), Cond.methodLink RX4 13 yX4_endless, Cond.static yX4_endless, Cond.code yX4_endless cX4_endless 1 (some .long), Cond.constantLong RX4 86 (9218868437227405312), Cond.constantLong RX4 88 (2139095040), Cond.methodLink RX4 77 yX4_rounded, Cond.static yX4_rounded, Cond.code yX4_rounded cX4_rounded 10 (some .long)]
def wsX0_forceAt : List Cond := .code yX0_forceAt cX0_forceAt 3 (some .long) :: ((wsX0_forceAt_r1 ++ (wsX0_forceAt_r2 ++ wsX0_forceAt_r3)) ++ wsX00 ++ wsX30 ++ wsX60)
def wsX1_init : List Cond := .code yX1_init cX1_init 4 none :: ([.methodLink RX1 1 objectInit, .instanceMethod objectInit, .code objectInit ⟨#[0xb1]⟩ 1 none, .fieldLink RX1 7 "OrreryDials$Dial" "place" "J", .fieldLink RX1 13 "OrreryDials$Dial" "laps" "J", .fieldLink RX1 16 "OrreryDials$Dial" "fine" "Z", .fieldLink RX1 20 "OrreryDials$Dial" "rim" "J"] ++ wsX10)
def wsX4_withMore : List Cond := .code yX4_withMore cX4_withMore 4 (some .long) :: ([])
def wsX4_shiftedOut : List Cond := .code yX4_shiftedOut cX4_shiftedOut 3 (some .long) :: ([.methodLink RX4 44 yX4_withMore, .static yX4_withMore, .initialized RX4, .code yX4_withMore cX4_withMore 4 (some .long)])
def wsX4_sum_r1 : List Cond := [Cond.methodLink RX4 7 yX4_sizeOf, Cond.static yX4_sizeOf, Cond.initialized RX4, Cond.code yX4_sizeOf cX4_sizeOf 3 (some .long), Cond.constantLong RX4 68 (9223372036854775807), Cond.constantLong RX4 82 (2147483647), Cond.methodLink RX4 21 yX4_mantissa, Cond.static yX4_mantissa, Cond.code yX4_mantissa cX4_mantissa 7 (some .long), Cond.methodLink RX4 74 yX4_width, Cond.static yX4_width, Cond.code yX4_width cX4_width 1 (some .int), Cond.methodLink RX4 24 yX4_exponent, Cond.static yX4_exponent, Cond.code yX4_exponent cX4_exponent 4 (some .int), Cond.methodLink RX4 57 Lib.Math.max.name, Cond.static Lib.Math.max.name, Cond.initialized "java/lang/Math", Cond.code Lib.Math.max.name Lib.Math.max.code 2 (some .int), Cond.methodLink RX4 70 yX4_leastExponent, Cond.static yX4_leastExponent, Cond.code yX4_leastExponent cX4_leastExponent 1 (some .int), Cond.methodLink RX4 28 yX4_shiftedOut, Cond.static yX4_shiftedOut]
def wsX4_sum_r2 : List Cond := [Cond.code yX4_shiftedOut cX4_shiftedOut 3 (some .long), Cond.methodLink RX4 44 yX4_withMore, Cond.static yX4_withMore, Cond.code yX4_withMore cX4_withMore 4 (some .long), Cond.methodLink RX4 32 yX4_nearest, Cond.static yX4_nearest, Cond.code yX4_nearest cX4_nearest 13 (some .long), Cond.methodLink RX4 36 yX4_signed, Cond.static yX4_signed, Cond.code yX4_signed cX4_signed 6 (some .long), Cond.constantLong RX4 19 (-9223372036854775808), Cond.constantLong RX4 84 (-2147483648), Cond.methodLink RX4 40 yX4_lengthOf, Cond.static yX4_lengthOf, Cond.code yX4_lengthOf cX4_lengthOf 2 (some .int), Cond.methodLink RX4 54 yJ13_numberOfLeadingZeros_95d88, Cond.static yJ13_numberOfLeadingZeros_95d88, Cond.initialized RJ13, Cond.code yJ13_numberOfLeadingZeros_95d88 cJ13_numberOfLeadingZeros_95d88 3 (some .int), Cond.methodLink RJ13 308 yJ6_numberOfLeadingZeros_0f7a4, Cond.static yJ6_numberOfLeadingZeros_0f7a4, Cond.initialized RJ6, Cond.code yJ6_numberOfLeadingZeros_0f7a4 cJ6_numberOfLeadingZeros_0f7a4 2 (some .int), Cond.constant RJ6 264 (65536)]
def wsX4_sum_r3 : List Cond := [Cond.methodLink RX4 13 yX4_endless, Cond.static yX4_endless, Cond.code yX4_endless cX4_endless 1 (some .long), Cond.constantLong RX4 86 (9218868437227405312), Cond.constantLong RX4 88 (2139095040), Cond.methodLink RX4 77 yX4_rounded, Cond.static yX4_rounded, Cond.code yX4_rounded cX4_rounded 10 (some .long)]
def wsX4_sum : List Cond := .code yX4_sum cX4_sum 19 (some .long) :: ((wsX4_sum_r1 ++ (wsX4_sum_r2 ++ wsX4_sum_r3)))
def wsX4_isFit : List Cond := .code yX4_isFit cX4_isFit 3 (some .boolean) :: ([.methodLink RX4 7 yX4_sizeOf, .static yX4_sizeOf, .initialized RX4, .code yX4_sizeOf cX4_sizeOf 3 (some .long), .constantLong RX4 68 (9223372036854775807), .constantLong RX4 82 (2147483647), .methodLink RX4 13 yX4_endless, .static yX4_endless, .code yX4_endless cX4_endless 1 (some .long), .constantLong RX4 86 (9218868437227405312), .constantLong RX4 88 (2139095040)])
def wsX4_quotient_r1 : List Cond := [Cond.methodLink RX4 21 yX4_mantissa, Cond.static yX4_mantissa, Cond.initialized RX4, Cond.code yX4_mantissa cX4_mantissa 7 (some .long), Cond.methodLink RX4 74 yX4_width, Cond.static yX4_width, Cond.code yX4_width cX4_width 1 (some .int), Cond.methodLink RX4 7 yX4_sizeOf, Cond.static yX4_sizeOf, Cond.code yX4_sizeOf cX4_sizeOf 3 (some .long), Cond.constantLong RX4 68 (9223372036854775807), Cond.constantLong RX4 82 (2147483647), Cond.methodLink RX4 36 yX4_signed, Cond.static yX4_signed, Cond.code yX4_signed cX4_signed 6 (some .long), Cond.constantLong RX4 19 (-9223372036854775808), Cond.constantLong RX4 84 (-2147483648), Cond.methodLink RX4 40 yX4_lengthOf, Cond.static yX4_lengthOf, Cond.code yX4_lengthOf cX4_lengthOf 2 (some .int), Cond.methodLink RX4 54 yJ13_numberOfLeadingZeros_95d88, Cond.static yJ13_numberOfLeadingZeros_95d88, Cond.initialized RJ13, Cond.code yJ13_numberOfLeadingZeros_95d88 cJ13_numberOfLeadingZeros_95d88 3 (some .int)]
def wsX4_quotient_r2 : List Cond := [Cond.methodLink RJ13 308 yJ6_numberOfLeadingZeros_0f7a4, Cond.static yJ6_numberOfLeadingZeros_0f7a4, Cond.initialized RJ6, Cond.code yJ6_numberOfLeadingZeros_0f7a4 cJ6_numberOfLeadingZeros_0f7a4 2 (some .int), Cond.constant RJ6 264 (65536), Cond.methodLink RX4 24 yX4_exponent, Cond.static yX4_exponent, Cond.code yX4_exponent cX4_exponent 4 (some .int), Cond.methodLink RX4 57 Lib.Math.max.name, Cond.static Lib.Math.max.name, Cond.initialized "java/lang/Math", Cond.code Lib.Math.max.name Lib.Math.max.code 2 (some .int), Cond.methodLink RX4 70 yX4_leastExponent, Cond.static yX4_leastExponent, Cond.code yX4_leastExponent cX4_leastExponent 1 (some .int), Cond.methodLink RX4 44 yX4_withMore, Cond.static yX4_withMore, Cond.code yX4_withMore cX4_withMore 4 (some .long), Cond.methodLink RX4 32 yX4_nearest, Cond.static yX4_nearest, Cond.code yX4_nearest cX4_nearest 13 (some .long), Cond.methodLink RX4 13 yX4_endless, Cond.static yX4_endless, Cond.code yX4_endless cX4_endless 1 (some .long)]
def wsX4_quotient_r3 : List Cond := [Cond.constantLong RX4 86 (9218868437227405312), Cond.constantLong RX4 88 (2139095040), Cond.methodLink RX4 77 yX4_rounded, Cond.static yX4_rounded, Cond.code yX4_rounded cX4_rounded 10 (some .long)]
def wsX4_quotient : List Cond := .code yX4_quotient cX4_quotient 17 (some .long) :: ((wsX4_quotient_r1 ++ (wsX4_quotient_r2 ++ wsX4_quotient_r3)))
def wsX4_cutToLong_r1 : List Cond := [Cond.constantLong RX4 19 (-9223372036854775808), Cond.constantLong RX4 68 (9223372036854775807), Cond.methodLink RX4 21 yX4_mantissa, Cond.static yX4_mantissa, Cond.initialized RX4, Cond.code yX4_mantissa cX4_mantissa 7 (some .long), Cond.methodLink RX4 74 yX4_width, Cond.static yX4_width, Cond.code yX4_width cX4_width 1 (some .int), Cond.methodLink RX4 7 yX4_sizeOf, Cond.static yX4_sizeOf, Cond.code yX4_sizeOf cX4_sizeOf 3 (some .long), Cond.constantLong RX4 82 (2147483647), Cond.methodLink RX4 24 yX4_exponent, Cond.static yX4_exponent, Cond.code yX4_exponent cX4_exponent 4 (some .int), Cond.methodLink RX4 57 Lib.Math.max.name, Cond.static Lib.Math.max.name, Cond.initialized "java/lang/Math", Cond.code Lib.Math.max.name Lib.Math.max.code 2 (some .int), Cond.methodLink RX4 70 yX4_leastExponent, Cond.static yX4_leastExponent, Cond.code yX4_leastExponent cX4_leastExponent 1 (some .int), Cond.methodLink RX4 40 yX4_lengthOf]
def wsX4_cutToLong_r2 : List Cond := [Cond.static yX4_lengthOf, Cond.code yX4_lengthOf cX4_lengthOf 2 (some .int), Cond.methodLink RX4 54 yJ13_numberOfLeadingZeros_95d88, Cond.static yJ13_numberOfLeadingZeros_95d88, Cond.initialized RJ13, Cond.code yJ13_numberOfLeadingZeros_95d88 cJ13_numberOfLeadingZeros_95d88 3 (some .int), Cond.methodLink RJ13 308 yJ6_numberOfLeadingZeros_0f7a4, Cond.static yJ6_numberOfLeadingZeros_0f7a4, Cond.initialized RJ6, Cond.code yJ6_numberOfLeadingZeros_0f7a4 cJ6_numberOfLeadingZeros_0f7a4 2 (some .int), Cond.constant RJ6 264 (65536)]
def wsX4_cutToLong : List Cond := .code yX4_cutToLong cX4_cutToLong 8 (some .long) :: ((wsX4_cutToLong_r1 ++ wsX4_cutToLong_r2))
def wsX4_leftOver_r1 : List Cond := [Cond.methodLink RX4 57 Lib.Math.max.name, Cond.static Lib.Math.max.name, Cond.initialized "java/lang/Math", Cond.code Lib.Math.max.name Lib.Math.max.code 2 (some .int), Cond.methodLink RX4 61 Lib.Math.min.name, Cond.static Lib.Math.min.name, Cond.code Lib.Math.min.name Lib.Math.min.code 2 (some .int), Cond.methodLink RX4 21 yX4_mantissa, Cond.static yX4_mantissa, Cond.initialized RX4, Cond.code yX4_mantissa cX4_mantissa 7 (some .long), Cond.methodLink RX4 74 yX4_width, Cond.static yX4_width, Cond.code yX4_width cX4_width 1 (some .int), Cond.methodLink RX4 7 yX4_sizeOf, Cond.static yX4_sizeOf, Cond.code yX4_sizeOf cX4_sizeOf 3 (some .long), Cond.constantLong RX4 68 (9223372036854775807), Cond.constantLong RX4 82 (2147483647), Cond.methodLink RX4 54 yJ13_numberOfLeadingZeros_95d88, Cond.static yJ13_numberOfLeadingZeros_95d88, Cond.initialized RJ13, Cond.code yJ13_numberOfLeadingZeros_95d88 cJ13_numberOfLeadingZeros_95d88 3 (some .int), Cond.methodLink RJ13 308 yJ6_numberOfLeadingZeros_0f7a4]
def wsX4_leftOver_r2 : List Cond := [Cond.static yJ6_numberOfLeadingZeros_0f7a4, Cond.initialized RJ6, Cond.code yJ6_numberOfLeadingZeros_0f7a4 cJ6_numberOfLeadingZeros_0f7a4 2 (some .int), Cond.constant RJ6 264 (65536), Cond.methodLink RX4 24 yX4_exponent, Cond.static yX4_exponent, Cond.code yX4_exponent cX4_exponent 4 (some .int), Cond.methodLink RX4 70 yX4_leastExponent, Cond.static yX4_leastExponent, Cond.code yX4_leastExponent cX4_leastExponent 1 (some .int), Cond.methodLink RX4 32 yX4_nearest, Cond.static yX4_nearest, Cond.code yX4_nearest cX4_nearest 13 (some .long), Cond.methodLink RX4 36 yX4_signed, Cond.static yX4_signed, Cond.code yX4_signed cX4_signed 6 (some .long), Cond.constantLong RX4 19 (-9223372036854775808), Cond.constantLong RX4 84 (-2147483648), Cond.methodLink RX4 40 yX4_lengthOf, Cond.static yX4_lengthOf, Cond.code yX4_lengthOf cX4_lengthOf 2 (some .int), Cond.methodLink RX4 13 yX4_endless, Cond.static yX4_endless, Cond.code yX4_endless cX4_endless 1 (some .long)]
def wsX4_leftOver_r3 : List Cond := [Cond.constantLong RX4 86 (9218868437227405312), Cond.constantLong RX4 88 (2139095040), Cond.methodLink RX4 77 yX4_rounded, Cond.static yX4_rounded, Cond.code yX4_rounded cX4_rounded 10 (some .long)]
def wsX4_leftOver : List Cond := .code yX4_leftOver cX4_leftOver 11 (some .long) :: ((wsX4_leftOver_r1 ++ (wsX4_leftOver_r2 ++ wsX4_leftOver_r3)))
def wsX1_turnBy_r1 : List Cond := [Cond.fieldLink RX1 16 "OrreryDials$Dial" "fine" "Z", Cond.fieldLink RX1 7 "OrreryDials$Dial" "place" "J", Cond.fieldLink RX1 13 "OrreryDials$Dial" "laps" "J", Cond.fieldLink RX1 20 "OrreryDials$Dial" "rim" "J", Cond.methodLink RX1 23 yX4_sum, Cond.static yX4_sum, Cond.initialized RX4, Cond.code yX4_sum cX4_sum 19 (some .long), Cond.methodLink RX4 7 yX4_sizeOf, Cond.static yX4_sizeOf, Cond.code yX4_sizeOf cX4_sizeOf 3 (some .long), Cond.constantLong RX4 68 (9223372036854775807), Cond.constantLong RX4 82 (2147483647), Cond.methodLink RX4 21 yX4_mantissa, Cond.static yX4_mantissa, Cond.code yX4_mantissa cX4_mantissa 7 (some .long), Cond.methodLink RX4 74 yX4_width, Cond.static yX4_width, Cond.code yX4_width cX4_width 1 (some .int), Cond.methodLink RX4 24 yX4_exponent, Cond.static yX4_exponent, Cond.code yX4_exponent cX4_exponent 4 (some .int), Cond.methodLink RX4 57 Lib.Math.max.name, Cond.static Lib.Math.max.name]
def wsX1_turnBy_r2 : List Cond := [Cond.initialized "java/lang/Math", Cond.code Lib.Math.max.name Lib.Math.max.code 2 (some .int), Cond.methodLink RX4 70 yX4_leastExponent, Cond.static yX4_leastExponent, Cond.code yX4_leastExponent cX4_leastExponent 1 (some .int), Cond.methodLink RX4 28 yX4_shiftedOut, Cond.static yX4_shiftedOut, Cond.code yX4_shiftedOut cX4_shiftedOut 3 (some .long), Cond.methodLink RX4 44 yX4_withMore, Cond.static yX4_withMore, Cond.code yX4_withMore cX4_withMore 4 (some .long), Cond.methodLink RX4 32 yX4_nearest, Cond.static yX4_nearest, Cond.code yX4_nearest cX4_nearest 13 (some .long), Cond.methodLink RX4 36 yX4_signed, Cond.static yX4_signed, Cond.code yX4_signed cX4_signed 6 (some .long), Cond.constantLong RX4 19 (-9223372036854775808), Cond.constantLong RX4 84 (-2147483648), Cond.methodLink RX4 40 yX4_lengthOf, Cond.static yX4_lengthOf, Cond.code yX4_lengthOf cX4_lengthOf 2 (some .int), Cond.methodLink RX4 54 yJ13_numberOfLeadingZeros_95d88, Cond.static yJ13_numberOfLeadingZeros_95d88]
def wsX1_turnBy_r3 : List Cond := [Cond.initialized RJ13, Cond.code yJ13_numberOfLeadingZeros_95d88 cJ13_numberOfLeadingZeros_95d88 3 (some .int), Cond.methodLink RJ13 308 yJ6_numberOfLeadingZeros_0f7a4, Cond.static yJ6_numberOfLeadingZeros_0f7a4, Cond.initialized RJ6, Cond.code yJ6_numberOfLeadingZeros_0f7a4 cJ6_numberOfLeadingZeros_0f7a4 2 (some .int), Cond.constant RJ6 264 (65536), Cond.methodLink RX4 13 yX4_endless, Cond.static yX4_endless, Cond.code yX4_endless cX4_endless 1 (some .long), Cond.constantLong RX4 86 (9218868437227405312), Cond.constantLong RX4 88 (2139095040), Cond.methodLink RX4 77 yX4_rounded, Cond.static yX4_rounded, Cond.code yX4_rounded cX4_rounded 10 (some .long), Cond.methodLink RX1 29 yX4_isFit, Cond.static yX4_isFit, Cond.code yX4_isFit cX4_isFit 3 (some .boolean), Cond.methodLink RX1 33 yX4_quotient, Cond.static yX4_quotient, Cond.code yX4_quotient cX4_quotient 17 (some .long), Cond.methodLink RX1 36 yX4_cutToLong, Cond.static yX4_cutToLong, Cond.code yX4_cutToLong cX4_cutToLong 8 (some .long)]
def wsX1_turnBy_r4 : List Cond := [Cond.methodLink RX1 40 yX4_leftOver, Cond.static yX4_leftOver, Cond.code yX4_leftOver cX4_leftOver 11 (some .long), Cond.methodLink RX4 61 Lib.Math.min.name, Cond.static Lib.Math.min.name, Cond.code Lib.Math.min.name Lib.Math.min.code 2 (some .int)]
def wsX1_turnBy : List Cond := .code yX1_turnBy cX1_turnBy 5 (some .boolean) :: ((wsX1_turnBy_r1 ++ (wsX1_turnBy_r2 ++ (wsX1_turnBy_r3 ++ wsX1_turnBy_r4))) ++ wsX10)
def wsX4_ofReal_r1 : List Cond := [Cond.methodLink RX4 64 yX4_isFit, Cond.static yX4_isFit, Cond.initialized RX4, Cond.code yX4_isFit cX4_isFit 3 (some .boolean), Cond.methodLink RX4 7 yX4_sizeOf, Cond.static yX4_sizeOf, Cond.code yX4_sizeOf cX4_sizeOf 3 (some .long), Cond.constantLong RX4 68 (9223372036854775807), Cond.constantLong RX4 82 (2147483647), Cond.methodLink RX4 13 yX4_endless, Cond.static yX4_endless, Cond.code yX4_endless cX4_endless 1 (some .long), Cond.constantLong RX4 86 (9218868437227405312), Cond.constantLong RX4 88 (2139095040), Cond.methodLink RX4 36 yX4_signed, Cond.static yX4_signed, Cond.code yX4_signed cX4_signed 6 (some .long), Cond.constantLong RX4 19 (-9223372036854775808), Cond.constantLong RX4 84 (-2147483648), Cond.methodLink RX4 21 yX4_mantissa, Cond.static yX4_mantissa, Cond.code yX4_mantissa cX4_mantissa 7 (some .long), Cond.methodLink RX4 74 yX4_width, Cond.static yX4_width]
def wsX4_ofReal_r2 : List Cond := [Cond.code yX4_width cX4_width 1 (some .int), Cond.methodLink RX4 24 yX4_exponent, Cond.static yX4_exponent, Cond.code yX4_exponent cX4_exponent 4 (some .int), Cond.methodLink RX4 57 Lib.Math.max.name, Cond.static Lib.Math.max.name, Cond.initialized "java/lang/Math", Cond.code Lib.Math.max.name Lib.Math.max.code 2 (some .int), Cond.methodLink RX4 70 yX4_leastExponent, Cond.static yX4_leastExponent, Cond.code yX4_leastExponent cX4_leastExponent 1 (some .int), Cond.methodLink RX4 32 yX4_nearest, Cond.static yX4_nearest, Cond.code yX4_nearest cX4_nearest 13 (some .long), Cond.methodLink RX4 40 yX4_lengthOf, Cond.static yX4_lengthOf, Cond.code yX4_lengthOf cX4_lengthOf 2 (some .int), Cond.methodLink RX4 54 yJ13_numberOfLeadingZeros_95d88, Cond.static yJ13_numberOfLeadingZeros_95d88, Cond.initialized RJ13, Cond.code yJ13_numberOfLeadingZeros_95d88 cJ13_numberOfLeadingZeros_95d88 3 (some .int), Cond.methodLink RJ13 308 yJ6_numberOfLeadingZeros_0f7a4, Cond.static yJ6_numberOfLeadingZeros_0f7a4, Cond.initialized RJ6]
def wsX4_ofReal_r3 : List Cond := [Cond.code yJ6_numberOfLeadingZeros_0f7a4 cJ6_numberOfLeadingZeros_0f7a4 2 (some .int), Cond.constant RJ6 264 (65536), Cond.methodLink RX4 77 yX4_rounded, Cond.static yX4_rounded, Cond.code yX4_rounded cX4_rounded 10 (some .long)]
def wsX4_ofReal : List Cond := .code yX4_ofReal cX4_ofReal 4 (some .long) :: ((wsX4_ofReal_r1 ++ (wsX4_ofReal_r2 ++ wsX4_ofReal_r3)))
def wsX3_forceAt_r1 : List Cond := [Cond.fieldLink RX3 7 "OrreryDials$Flywheel" "pull" "J", Cond.sameField "OrreryDials$Flywheel" "OrreryDials$Drive" "pull" "J", Cond.fieldLink RX3 13 "OrreryDials$Flywheel" "gear" "I", Cond.sameField "OrreryDials$Flywheel" "OrreryDials$Crank" "gear" "I", Cond.fieldLink RX3 27 "OrreryDials$Flywheel" "pullCount" "I", Cond.sameField "OrreryDials$Flywheel" "OrreryDials$Drive" "pullCount" "I", Cond.methodLink RX3 17 yX4_timesInt, Cond.static yX4_timesInt, Cond.initialized RX4, Cond.code yX4_timesInt cX4_timesInt 4 (some .long), Cond.methodLink RX4 48 Lib.MathLoose.abs_long.x, Cond.static Lib.MathLoose.abs_long.x, Cond.initialized "java/lang/Math", Cond.code Lib.MathLoose.abs_long.x Lib.MathLoose.abs_long.code 2 (some .long), Cond.methodLink RX4 21 yX4_mantissa, Cond.static yX4_mantissa, Cond.code yX4_mantissa cX4_mantissa 7 (some .long), Cond.methodLink RX4 74 yX4_width, Cond.static yX4_width, Cond.code yX4_width cX4_width 1 (some .int), Cond.methodLink RX4 7 yX4_sizeOf, Cond.static yX4_sizeOf, Cond.code yX4_sizeOf cX4_sizeOf 3 (some .long), Cond.constantLong RX4 68 (9223372036854775807)]
def wsX3_forceAt_r2 : List Cond := [Cond.constantLong RX4 82 (2147483647), Cond.methodLink RX4 24 yX4_exponent, Cond.static yX4_exponent, Cond.code yX4_exponent cX4_exponent 4 (some .int), Cond.methodLink RX4 57 Lib.Math.max.name, Cond.static Lib.Math.max.name, Cond.code Lib.Math.max.name Lib.Math.max.code 2 (some .int), Cond.methodLink RX4 70 yX4_leastExponent, Cond.static yX4_leastExponent, Cond.code yX4_leastExponent cX4_leastExponent 1 (some .int), Cond.methodLink RX4 32 yX4_nearest, Cond.static yX4_nearest, Cond.code yX4_nearest cX4_nearest 13 (some .long), Cond.methodLink RX4 36 yX4_signed, Cond.static yX4_signed, Cond.code yX4_signed cX4_signed 6 (some .long), Cond.constantLong RX4 19 (-9223372036854775808), Cond.constantLong RX4 84 (-2147483648), Cond.methodLink RX4 40 yX4_lengthOf, Cond.static yX4_lengthOf, Cond.code yX4_lengthOf cX4_lengthOf 2 (some .int), Cond.methodLink RX4 54 yJ13_numberOfLeadingZeros_95d88, Cond.static yJ13_numberOfLeadingZeros_95d88, Cond.initialized RJ13]
def wsX3_forceAt_r3 : List Cond := [Cond.code yJ13_numberOfLeadingZeros_95d88 cJ13_numberOfLeadingZeros_95d88 3 (some .int), Cond.methodLink RJ13 308 yJ6_numberOfLeadingZeros_0f7a4, Cond.static yJ6_numberOfLeadingZeros_0f7a4, Cond.initialized RJ6, Cond.code yJ6_numberOfLeadingZeros_0f7a4 cJ6_numberOfLeadingZeros_0f7a4 2 (some .int), Cond.constant RJ6 264 (65536), Cond.methodLink RX4 13 yX4_endless, Cond.static yX4_endless, Cond.code yX4_endless cX4_endless 1 (some .long), Cond.constantLong RX4 86 (9218868437227405312), Cond.constantLong RX4 88 (2139095040), Cond.methodLink RX4 77 yX4_rounded, Cond.static yX4_rounded, Cond.code yX4_rounded cX4_rounded 10 (some .long), Cond.methodLink RX3 23 yX4_isFit, Cond.static yX4_isFit, Cond.code yX4_isFit cX4_isFit 3 (some .boolean), Cond.methodLink RX3 30 yX4_sum, Cond.static yX4_sum, Cond.code yX4_sum cX4_sum 19 (some .long), Cond.methodLink RX4 28 yX4_shiftedOut, Cond.static yX4_shiftedOut, Cond.code yX4_shiftedOut cX4_shiftedOut 3 (some .long), Cond.methodLink RX4 44 yX4_withMore]
def wsX3_forceAt_r4 : List Cond := [Cond.static yX4_withMore, Cond.code yX4_withMore cX4_withMore 4 (some .long)]
def wsX3_forceAt : List Cond := .code yX3_forceAt cX3_forceAt 7 (some .long) :: ((wsX3_forceAt_r1 ++ (wsX3_forceAt_r2 ++ (wsX3_forceAt_r3 ++ wsX3_forceAt_r4))) ++ wsX00 ++ wsX30 ++ wsX60)
def wsX4_negated : List Cond := .code yX4_negated cX4_negated 2 (some .long) :: ([.constantLong RX4 19 (-9223372036854775808)])
def wsX6_forceAt_r1 : List Cond := [Cond.fieldLink RX6 7 "OrreryDials$Spring" "pull" "J", Cond.sameField "OrreryDials$Spring" "OrreryDials$Drive" "pull" "J", Cond.methodLink RX6 13 yX4_negated, Cond.static yX4_negated, Cond.initialized RX4, Cond.code yX4_negated cX4_negated 2 (some .long), Cond.constantLong RX4 19 (-9223372036854775808), Cond.methodLink RX6 19 yX4_sum, Cond.static yX4_sum, Cond.code yX4_sum cX4_sum 19 (some .long), Cond.methodLink RX4 7 yX4_sizeOf, Cond.static yX4_sizeOf, Cond.code yX4_sizeOf cX4_sizeOf 3 (some .long), Cond.constantLong RX4 68 (9223372036854775807), Cond.constantLong RX4 82 (2147483647), Cond.methodLink RX4 21 yX4_mantissa, Cond.static yX4_mantissa, Cond.code yX4_mantissa cX4_mantissa 7 (some .long), Cond.methodLink RX4 74 yX4_width, Cond.static yX4_width, Cond.code yX4_width cX4_width 1 (some .int), Cond.methodLink RX4 24 yX4_exponent, Cond.static yX4_exponent, Cond.code yX4_exponent cX4_exponent 4 (some .int)]
def wsX6_forceAt_r2 : List Cond := [Cond.methodLink RX4 57 Lib.Math.max.name, Cond.static Lib.Math.max.name, Cond.initialized "java/lang/Math", Cond.code Lib.Math.max.name Lib.Math.max.code 2 (some .int), Cond.methodLink RX4 70 yX4_leastExponent, Cond.static yX4_leastExponent, Cond.code yX4_leastExponent cX4_leastExponent 1 (some .int), Cond.methodLink RX4 28 yX4_shiftedOut, Cond.static yX4_shiftedOut, Cond.code yX4_shiftedOut cX4_shiftedOut 3 (some .long), Cond.methodLink RX4 44 yX4_withMore, Cond.static yX4_withMore, Cond.code yX4_withMore cX4_withMore 4 (some .long), Cond.methodLink RX4 32 yX4_nearest, Cond.static yX4_nearest, Cond.code yX4_nearest cX4_nearest 13 (some .long), Cond.methodLink RX4 36 yX4_signed, Cond.static yX4_signed, Cond.code yX4_signed cX4_signed 6 (some .long), Cond.constantLong RX4 84 (-2147483648), Cond.methodLink RX4 40 yX4_lengthOf, Cond.static yX4_lengthOf, Cond.code yX4_lengthOf cX4_lengthOf 2 (some .int), Cond.methodLink RX4 54 yJ13_numberOfLeadingZeros_95d88]
def wsX6_forceAt_r3 : List Cond := [Cond.static yJ13_numberOfLeadingZeros_95d88, Cond.initialized RJ13, Cond.code yJ13_numberOfLeadingZeros_95d88 cJ13_numberOfLeadingZeros_95d88 3 (some .int), Cond.methodLink RJ13 308 yJ6_numberOfLeadingZeros_0f7a4, Cond.static yJ6_numberOfLeadingZeros_0f7a4, Cond.initialized RJ6, Cond.code yJ6_numberOfLeadingZeros_0f7a4 cJ6_numberOfLeadingZeros_0f7a4 2 (some .int), Cond.constant RJ6 264 (65536), Cond.methodLink RX4 13 yX4_endless, Cond.static yX4_endless, Cond.code yX4_endless cX4_endless 1 (some .long), Cond.constantLong RX4 86 (9218868437227405312), Cond.constantLong RX4 88 (2139095040), Cond.methodLink RX4 77 yX4_rounded, Cond.static yX4_rounded, Cond.code yX4_rounded cX4_rounded 10 (some .long)]
def wsX6_forceAt : List Cond := .code yX6_forceAt cX6_forceAt 3 (some .long) :: ((wsX6_forceAt_r1 ++ (wsX6_forceAt_r2 ++ wsX6_forceAt_r3)) ++ wsX00 ++ wsX30 ++ wsX60)
def wsX2_pullAt_r1 : List Cond := [Cond.fieldLink RX2 20 "OrreryDials$Dial" "fine" "Z", Cond.fieldLink RX2 26 "OrreryDials$Dial" "place" "J", Cond.fieldLink RX2 7 "OrreryDials$Drive" "pullCount" "I", Cond.methodLink RX2 29 yX4_ofReal, Cond.static yX4_ofReal, Cond.initialized RX4, Cond.code yX4_ofReal cX4_ofReal 4 (some .long), Cond.methodLink RX4 64 yX4_isFit, Cond.static yX4_isFit, Cond.code yX4_isFit cX4_isFit 3 (some .boolean), Cond.methodLink RX4 7 yX4_sizeOf, Cond.static yX4_sizeOf, Cond.code yX4_sizeOf cX4_sizeOf 3 (some .long), Cond.constantLong RX4 68 (9223372036854775807), Cond.constantLong RX4 82 (2147483647), Cond.methodLink RX4 13 yX4_endless, Cond.static yX4_endless, Cond.code yX4_endless cX4_endless 1 (some .long), Cond.constantLong RX4 86 (9218868437227405312), Cond.constantLong RX4 88 (2139095040), Cond.methodLink RX4 36 yX4_signed, Cond.static yX4_signed, Cond.code yX4_signed cX4_signed 6 (some .long), Cond.constantLong RX4 19 (-9223372036854775808)]
def wsX2_pullAt_r2 : List Cond := [Cond.constantLong RX4 84 (-2147483648), Cond.methodLink RX4 21 yX4_mantissa, Cond.static yX4_mantissa, Cond.code yX4_mantissa cX4_mantissa 7 (some .long), Cond.methodLink RX4 74 yX4_width, Cond.static yX4_width, Cond.code yX4_width cX4_width 1 (some .int), Cond.methodLink RX4 24 yX4_exponent, Cond.static yX4_exponent, Cond.code yX4_exponent cX4_exponent 4 (some .int), Cond.methodLink RX4 57 Lib.Math.max.name, Cond.static Lib.Math.max.name, Cond.initialized "java/lang/Math", Cond.code Lib.Math.max.name Lib.Math.max.code 2 (some .int), Cond.methodLink RX4 70 yX4_leastExponent, Cond.static yX4_leastExponent, Cond.code yX4_leastExponent cX4_leastExponent 1 (some .int), Cond.methodLink RX4 32 yX4_nearest, Cond.static yX4_nearest, Cond.code yX4_nearest cX4_nearest 13 (some .long), Cond.methodLink RX4 40 yX4_lengthOf, Cond.static yX4_lengthOf, Cond.code yX4_lengthOf cX4_lengthOf 2 (some .int), Cond.methodLink RX4 54 yJ13_numberOfLeadingZeros_95d88]
def wsX2_pullAt_r3 : List Cond := [Cond.static yJ13_numberOfLeadingZeros_95d88, Cond.initialized RJ13, Cond.code yJ13_numberOfLeadingZeros_95d88 cJ13_numberOfLeadingZeros_95d88 3 (some .int), Cond.methodLink RJ13 308 yJ6_numberOfLeadingZeros_0f7a4, Cond.static yJ6_numberOfLeadingZeros_0f7a4, Cond.initialized RJ6, Cond.code yJ6_numberOfLeadingZeros_0f7a4 cJ6_numberOfLeadingZeros_0f7a4 2 (some .int), Cond.constant RJ6 264 (65536), Cond.methodLink RX4 77 yX4_rounded, Cond.static yX4_rounded, Cond.code yX4_rounded cX4_rounded 10 (some .long), Cond.methodLink RX2 35 ⟨"OrreryDials$Drive", "forceAt", "(J)J"⟩, Cond.sameMethod "OrreryDials$Drive" "OrreryDials$Drive" "forceAt" "(J)J", Cond.selects RX0 ⟨"OrreryDials$Drive", "forceAt", "(J)J"⟩ yX0_forceAt, Cond.instanceMethod yX0_forceAt, Cond.initialized RX0, Cond.code yX0_forceAt cX0_forceAt 3 (some .long), Cond.fieldLink RX0 13 "OrreryDials$Crank" "pull" "J", Cond.sameField "OrreryDials$Crank" "OrreryDials$Drive" "pull" "J", Cond.fieldLink RX0 7 "OrreryDials$Crank" "gear" "I", Cond.methodLink RX0 17 yX4_timesInt, Cond.static yX4_timesInt, Cond.code yX4_timesInt cX4_timesInt 4 (some .long), Cond.methodLink RX4 48 Lib.MathLoose.abs_long.x]
def wsX2_pullAt_r4 : List Cond := [Cond.static Lib.MathLoose.abs_long.x, Cond.code Lib.MathLoose.abs_long.x Lib.MathLoose.abs_long.code 2 (some .long), Cond.selects RX3 ⟨"OrreryDials$Drive", "forceAt", "(J)J"⟩ yX3_forceAt, Cond.instanceMethod yX3_forceAt, Cond.initialized RX3, Cond.code yX3_forceAt cX3_forceAt 7 (some .long), Cond.fieldLink RX3 7 "OrreryDials$Flywheel" "pull" "J", Cond.sameField "OrreryDials$Flywheel" "OrreryDials$Drive" "pull" "J", Cond.fieldLink RX3 13 "OrreryDials$Flywheel" "gear" "I", Cond.sameField "OrreryDials$Flywheel" "OrreryDials$Crank" "gear" "I", Cond.fieldLink RX3 27 "OrreryDials$Flywheel" "pullCount" "I", Cond.sameField "OrreryDials$Flywheel" "OrreryDials$Drive" "pullCount" "I", Cond.methodLink RX3 17 yX4_timesInt, Cond.methodLink RX3 23 yX4_isFit, Cond.methodLink RX3 30 yX4_sum, Cond.static yX4_sum, Cond.code yX4_sum cX4_sum 19 (some .long), Cond.methodLink RX4 28 yX4_shiftedOut, Cond.static yX4_shiftedOut, Cond.code yX4_shiftedOut cX4_shiftedOut 3 (some .long), Cond.methodLink RX4 44 yX4_withMore, Cond.static yX4_withMore, Cond.code yX4_withMore cX4_withMore 4 (some .long), Cond.selects RX6 ⟨"OrreryDials$Drive", "forceAt", "(J)J"⟩ yX6_forceAt]
def wsX2_pullAt_r5 : List Cond := [Cond.instanceMethod yX6_forceAt, Cond.initialized RX6, Cond.code yX6_forceAt cX6_forceAt 3 (some .long), Cond.fieldLink RX6 7 "OrreryDials$Spring" "pull" "J", Cond.sameField "OrreryDials$Spring" "OrreryDials$Drive" "pull" "J", Cond.methodLink RX6 13 yX4_negated, Cond.static yX4_negated, Cond.code yX4_negated cX4_negated 2 (some .long), Cond.methodLink RX6 19 yX4_sum, Cond.methodLink RX2 39 yX4_isFit, Cond.methodLink RX2 43 yX1_turnBy, Cond.instanceMethod yX1_turnBy, Cond.selects RX1 yX1_turnBy yX1_turnBy, Cond.initialized RX1, Cond.code yX1_turnBy cX1_turnBy 5 (some .boolean), Cond.fieldLink RX1 16 "OrreryDials$Dial" "fine" "Z", Cond.fieldLink RX1 7 "OrreryDials$Dial" "place" "J", Cond.fieldLink RX1 13 "OrreryDials$Dial" "laps" "J", Cond.fieldLink RX1 20 "OrreryDials$Dial" "rim" "J", Cond.methodLink RX1 23 yX4_sum, Cond.methodLink RX1 29 yX4_isFit, Cond.methodLink RX1 33 yX4_quotient, Cond.static yX4_quotient, Cond.code yX4_quotient cX4_quotient 17 (some .long)]
def wsX2_pullAt_r6 : List Cond := [Cond.methodLink RX1 36 yX4_cutToLong, Cond.static yX4_cutToLong, Cond.code yX4_cutToLong cX4_cutToLong 8 (some .long), Cond.methodLink RX1 40 yX4_leftOver, Cond.static yX4_leftOver, Cond.code yX4_leftOver cX4_leftOver 11 (some .long), Cond.methodLink RX4 61 Lib.Math.min.name, Cond.static Lib.Math.min.name, Cond.code Lib.Math.min.name Lib.Math.min.code 2 (some .int)]
def wsX2_pullAt : List Cond := .code yX2_pullAt cX2_pullAt 6 (some .boolean) :: ((wsX2_pullAt_r1 ++ (wsX2_pullAt_r2 ++ (wsX2_pullAt_r3 ++ (wsX2_pullAt_r4 ++ (wsX2_pullAt_r5 ++ wsX2_pullAt_r6))))) ++ wsX10 ++ wsX00 ++ wsX30 ++ wsX60)
def wsX3_init : List Cond := .code yX3_init cX3_init 4 none :: ([.methodLink RX3 1 yX0_init, .instanceMethod yX0_init, .initialized RX0, .code yX0_init cX0_init 4 none, .fieldLink RX0 7 "OrreryDials$Crank" "gear" "I", .methodLink RX0 1 yX2_init, .instanceMethod yX2_init, .initialized RX2, .code yX2_init cX2_init 4 none, .methodLink RX2 1 objectInit, .instanceMethod objectInit, .code objectInit ⟨#[0xb1]⟩ 1 none, .fieldLink RX2 7 "OrreryDials$Drive" "pullCount" "I", .fieldLink RX2 13 "OrreryDials$Drive" "number" "I", .fieldLink RX2 16 "OrreryDials$Drive" "pull" "J"] ++ wsX00 ++ wsX30 ++ wsX60)
def wsX4_told : List Cond := .code yX4_told cX4_told 3 (some .long) :: ([])
def wsX4_isNumber : List Cond := .code yX4_isNumber cX4_isNumber 3 (some .boolean) :: ([.methodLink RX4 7 yX4_sizeOf, .static yX4_sizeOf, .initialized RX4, .code yX4_sizeOf cX4_sizeOf 3 (some .long), .constantLong RX4 68 (9223372036854775807), .constantLong RX4 82 (2147483647), .methodLink RX4 13 yX4_endless, .static yX4_endless, .code yX4_endless cX4_endless 1 (some .long), .constantLong RX4 86 (9218868437227405312), .constantLong RX4 88 (2139095040)])
def wsX4_isZero : List Cond := .code yX4_isZero cX4_isZero 3 (some .boolean) :: ([.methodLink RX4 7 yX4_sizeOf, .static yX4_sizeOf, .initialized RX4, .code yX4_sizeOf cX4_sizeOf 3 (some .long), .constantLong RX4 68 (9223372036854775807), .constantLong RX4 82 (2147483647)])
def wsX4_ofLong_r1 : List Cond := [Cond.methodLink RX4 48 Lib.MathLoose.abs_long.x, Cond.static Lib.MathLoose.abs_long.x, Cond.initialized "java/lang/Math", Cond.code Lib.MathLoose.abs_long.x Lib.MathLoose.abs_long.code 2 (some .long), Cond.methodLink RX4 32 yX4_nearest, Cond.static yX4_nearest, Cond.initialized RX4, Cond.code yX4_nearest cX4_nearest 13 (some .long), Cond.methodLink RX4 57 Lib.Math.max.name, Cond.static Lib.Math.max.name, Cond.code Lib.Math.max.name Lib.Math.max.code 2 (some .int), Cond.methodLink RX4 36 yX4_signed, Cond.static yX4_signed, Cond.code yX4_signed cX4_signed 6 (some .long), Cond.constantLong RX4 19 (-9223372036854775808), Cond.constantLong RX4 84 (-2147483648), Cond.methodLink RX4 70 yX4_leastExponent, Cond.static yX4_leastExponent, Cond.code yX4_leastExponent cX4_leastExponent 1 (some .int), Cond.methodLink RX4 40 yX4_lengthOf, Cond.static yX4_lengthOf, Cond.code yX4_lengthOf cX4_lengthOf 2 (some .int), Cond.methodLink RX4 54 yJ13_numberOfLeadingZeros_95d88, Cond.static yJ13_numberOfLeadingZeros_95d88]
def wsX4_ofLong_r2 : List Cond := [Cond.initialized RJ13, Cond.code yJ13_numberOfLeadingZeros_95d88 cJ13_numberOfLeadingZeros_95d88 3 (some .int), Cond.methodLink RJ13 308 yJ6_numberOfLeadingZeros_0f7a4, Cond.static yJ6_numberOfLeadingZeros_0f7a4, Cond.initialized RJ6, Cond.code yJ6_numberOfLeadingZeros_0f7a4 cJ6_numberOfLeadingZeros_0f7a4 2 (some .int), Cond.constant RJ6 264 (65536), Cond.methodLink RX4 74 yX4_width, Cond.static yX4_width, Cond.code yX4_width cX4_width 1 (some .int), Cond.methodLink RX4 13 yX4_endless, Cond.static yX4_endless, Cond.code yX4_endless cX4_endless 1 (some .long), Cond.constantLong RX4 86 (9218868437227405312), Cond.constantLong RX4 88 (2139095040), Cond.methodLink RX4 77 yX4_rounded, Cond.static yX4_rounded, Cond.code yX4_rounded cX4_rounded 10 (some .long)]
def wsX4_ofLong : List Cond := .code yX4_ofLong cX4_ofLong 3 (some .long) :: ((wsX4_ofLong_r1 ++ wsX4_ofLong_r2))
def wsX5_init : List Cond := .code yX5_init cX5_init 1 none :: ([.methodLink RX5 3 objectInit, .instanceMethod objectInit, .code objectInit ⟨#[0xb1]⟩ 1 none, .arrayClass .long, .fieldLink RX5 9 "OrreryDials$Row" "places" "[J", .fieldLink RX5 15 "OrreryDials$Row" "size" "I"] ++ wsX50)
def wsX5_renew : List Cond := .code yX5_renew cX5_renew 3 none :: ([.fieldLink RX5 9 "OrreryDials$Row" "places" "[J", .fieldLink RX5 15 "OrreryDials$Row" "size" "I"] ++ wsX50)
def wsX5_isMissing : List Cond := .code yX5_isMissing cX5_isMissing 1 (some .boolean) :: ([.fieldLink RX5 15 "OrreryDials$Row" "size" "I"] ++ wsX50)
def wsX5_failureAt : List Cond := .code yX5_failureAt cX5_failureAt 2 (some .int) :: ([.fieldLink RX5 15 "OrreryDials$Row" "size" "I", .methodLink RX5 19 yX5_isMissing, .instanceMethod yX5_isMissing, .selects RX5 yX5_isMissing yX5_isMissing, .initialized RX5, .code yX5_isMissing cX5_isMissing 1 (some .boolean)] ++ wsX50)
def wsX6_init : List Cond := .code yX6_init cX6_init 4 none :: ([.methodLink RX6 1 yX2_init, .instanceMethod yX2_init, .initialized RX2, .code yX2_init cX2_init 4 none, .methodLink RX2 1 objectInit, .instanceMethod objectInit, .code objectInit ⟨#[0xb1]⟩ 1 none, .fieldLink RX2 7 "OrreryDials$Drive" "pullCount" "I", .fieldLink RX2 13 "OrreryDials$Drive" "number" "I", .fieldLink RX2 16 "OrreryDials$Drive" "pull" "J"] ++ wsX00 ++ wsX30 ++ wsX60)
def wsX7_init_r1 : List Cond := [Cond.methodLink RX7 1 objectInit, Cond.instanceMethod objectInit, Cond.code objectInit ⟨#[0xb1]⟩ 1 none, Cond.classLink RX7 9 RX1, Cond.fieldLink RX7 11 "OrreryDials" "dials" "[LOrreryDials$Dial;", Cond.fieldLink RX7 15 "OrreryDials" "dialCount" "I", Cond.classLink RX7 19 RX2, Cond.fieldLink RX7 21 "OrreryDials" "drives" "[LOrreryDials$Drive;", Cond.fieldLink RX7 25 "OrreryDials" "driveCount" "I", Cond.fieldLink RX7 28 "OrreryDials" "slots" "[LOrreryDials$Drive;", Cond.fieldLink RX7 31 "OrreryDials" "shaftPlaces" "[LOrreryDials$Drive;", Cond.classLink RX7 34 RX5, Cond.fieldLink RX7 36 "OrreryDials" "rows" "[LOrreryDials$Row;", Cond.fieldLink RX7 40 "OrreryDials" "seenBits" "J", Cond.fieldLink RX7 44 "OrreryDials" "latestFailure" "I", Cond.arrayClass .int, Cond.fieldLink RX7 47 "OrreryDials" "failureCounts" "[I", Cond.instantiable RX5 2, Cond.initialized RX5, Cond.instanceMethod yX5_init, Cond.code yX5_init cX5_init 1 none, Cond.methodLink RX5 3 objectInit, Cond.arrayClass .long, Cond.fieldLink RX5 9 "OrreryDials$Row" "places" "[J"]
def wsX7_init_r2 : List Cond := [Cond.fieldLink RX5 15 "OrreryDials$Row" "size" "I"]
def wsX7_init : List Cond := .code yX7_init cX7_init 2 none :: ((wsX7_init_r1 ++ wsX7_init_r2) ++ wsX70 ++ wsX50)
def wsX7_dial_r1 : List Cond := [Cond.fieldLink RX7 15 "OrreryDials" "dialCount" "I", Cond.fieldLink RX7 11 "OrreryDials" "dials" "[LOrreryDials$Dial;", Cond.classLink RX7 9 RX1, Cond.instantiable RX1 4, Cond.initialized RX1, Cond.methodLink RX7 52 yX4_told, Cond.static yX4_told, Cond.initialized RX4, Cond.code yX4_told cX4_told 3 (some .long), Cond.methodLink RX7 58 yX4_isFit, Cond.static yX4_isFit, Cond.code yX4_isFit cX4_isFit 3 (some .boolean), Cond.methodLink RX4 7 yX4_sizeOf, Cond.static yX4_sizeOf, Cond.code yX4_sizeOf cX4_sizeOf 3 (some .long), Cond.constantLong RX4 68 (9223372036854775807), Cond.constantLong RX4 82 (2147483647), Cond.methodLink RX4 13 yX4_endless, Cond.static yX4_endless, Cond.code yX4_endless cX4_endless 1 (some .long), Cond.constantLong RX4 86 (9218868437227405312), Cond.constantLong RX4 88 (2139095040), Cond.methodLink RX7 62 yX4_isZero, Cond.static yX4_isZero]
def wsX7_dial_r2 : List Cond := [Cond.code yX4_isZero cX4_isZero 3 (some .boolean), Cond.methodLink RX7 65 yX1_init, Cond.instanceMethod yX1_init, Cond.code yX1_init cX1_init 4 none, Cond.methodLink RX1 1 objectInit, Cond.instanceMethod objectInit, Cond.code objectInit ⟨#[0xb1]⟩ 1 none, Cond.fieldLink RX1 7 "OrreryDials$Dial" "place" "J", Cond.fieldLink RX1 13 "OrreryDials$Dial" "laps" "J", Cond.fieldLink RX1 16 "OrreryDials$Dial" "fine" "Z", Cond.fieldLink RX1 20 "OrreryDials$Dial" "rim" "J"]
def wsX7_dial : List Cond := .code yX7_dial cX7_dial 6 (some .int) :: ((wsX7_dial_r1 ++ wsX7_dial_r2) ++ wsX70 ++ wsX10)
def wsX7_dialAt : List Cond := .code yX7_dialAt cX7_dialAt 2 (some (.object "OrreryDials$Dial")) :: ([.fieldLink RX7 15 "OrreryDials" "dialCount" "I", .fieldLink RX7 11 "OrreryDials" "dials" "[LOrreryDials$Dial;"] ++ wsX70)
def wsX7_done : List Cond := .code yX7_done cX7_done 2 (some .int) :: ([.fieldLink RX7 44 "OrreryDials" "latestFailure" "I"] ++ wsX70)
def wsX7_failWith : List Cond := .code yX7_failWith cX7_failWith 3 (some .int) :: ([.fieldLink RX7 44 "OrreryDials" "latestFailure" "I", .fieldLink RX7 47 "OrreryDials" "failureCounts" "[I"] ++ wsX70)
def wsX7_turn_r1 : List Cond := [Cond.fieldLink RX7 72 "OrreryDials$Dial" "fine" "Z", Cond.methodLink RX7 68 yX7_dialAt, Cond.instanceMethod yX7_dialAt, Cond.selects RX7 yX7_dialAt yX7_dialAt, Cond.initialized RX7, Cond.code yX7_dialAt cX7_dialAt 2 (some (.object "OrreryDials$Dial")), Cond.fieldLink RX7 15 "OrreryDials" "dialCount" "I", Cond.fieldLink RX7 11 "OrreryDials" "dials" "[LOrreryDials$Dial;", Cond.methodLink RX7 52 yX4_told, Cond.static yX4_told, Cond.initialized RX4, Cond.code yX4_told cX4_told 3 (some .long), Cond.methodLink RX7 58 yX4_isFit, Cond.static yX4_isFit, Cond.code yX4_isFit cX4_isFit 3 (some .boolean), Cond.methodLink RX4 7 yX4_sizeOf, Cond.static yX4_sizeOf, Cond.code yX4_sizeOf cX4_sizeOf 3 (some .long), Cond.constantLong RX4 68 (9223372036854775807), Cond.constantLong RX4 82 (2147483647), Cond.methodLink RX4 13 yX4_endless, Cond.static yX4_endless, Cond.code yX4_endless cX4_endless 1 (some .long), Cond.constantLong RX4 86 (9218868437227405312)]
def wsX7_turn_r2 : List Cond := [Cond.constantLong RX4 88 (2139095040), Cond.methodLink RX7 76 yX1_turnBy, Cond.instanceMethod yX1_turnBy, Cond.selects RX1 yX1_turnBy yX1_turnBy, Cond.initialized RX1, Cond.code yX1_turnBy cX1_turnBy 5 (some .boolean), Cond.fieldLink RX1 16 "OrreryDials$Dial" "fine" "Z", Cond.fieldLink RX1 7 "OrreryDials$Dial" "place" "J", Cond.fieldLink RX1 13 "OrreryDials$Dial" "laps" "J", Cond.fieldLink RX1 20 "OrreryDials$Dial" "rim" "J", Cond.methodLink RX1 23 yX4_sum, Cond.static yX4_sum, Cond.code yX4_sum cX4_sum 19 (some .long), Cond.methodLink RX4 21 yX4_mantissa, Cond.static yX4_mantissa, Cond.code yX4_mantissa cX4_mantissa 7 (some .long), Cond.methodLink RX4 74 yX4_width, Cond.static yX4_width, Cond.code yX4_width cX4_width 1 (some .int), Cond.methodLink RX4 24 yX4_exponent, Cond.static yX4_exponent, Cond.code yX4_exponent cX4_exponent 4 (some .int), Cond.methodLink RX4 57 Lib.Math.max.name, Cond.static Lib.Math.max.name]
def wsX7_turn_r3 : List Cond := [Cond.initialized "java/lang/Math", Cond.code Lib.Math.max.name Lib.Math.max.code 2 (some .int), Cond.methodLink RX4 70 yX4_leastExponent, Cond.static yX4_leastExponent, Cond.code yX4_leastExponent cX4_leastExponent 1 (some .int), Cond.methodLink RX4 28 yX4_shiftedOut, Cond.static yX4_shiftedOut, Cond.code yX4_shiftedOut cX4_shiftedOut 3 (some .long), Cond.methodLink RX4 44 yX4_withMore, Cond.static yX4_withMore, Cond.code yX4_withMore cX4_withMore 4 (some .long), Cond.methodLink RX4 32 yX4_nearest, Cond.static yX4_nearest, Cond.code yX4_nearest cX4_nearest 13 (some .long), Cond.methodLink RX4 36 yX4_signed, Cond.static yX4_signed, Cond.code yX4_signed cX4_signed 6 (some .long), Cond.constantLong RX4 19 (-9223372036854775808), Cond.constantLong RX4 84 (-2147483648), Cond.methodLink RX4 40 yX4_lengthOf, Cond.static yX4_lengthOf, Cond.code yX4_lengthOf cX4_lengthOf 2 (some .int), Cond.methodLink RX4 54 yJ13_numberOfLeadingZeros_95d88, Cond.static yJ13_numberOfLeadingZeros_95d88]
def wsX7_turn_r4 : List Cond := [Cond.initialized RJ13, Cond.code yJ13_numberOfLeadingZeros_95d88 cJ13_numberOfLeadingZeros_95d88 3 (some .int), Cond.methodLink RJ13 308 yJ6_numberOfLeadingZeros_0f7a4, Cond.static yJ6_numberOfLeadingZeros_0f7a4, Cond.initialized RJ6, Cond.code yJ6_numberOfLeadingZeros_0f7a4 cJ6_numberOfLeadingZeros_0f7a4 2 (some .int), Cond.constant RJ6 264 (65536), Cond.methodLink RX4 77 yX4_rounded, Cond.static yX4_rounded, Cond.code yX4_rounded cX4_rounded 10 (some .long), Cond.methodLink RX1 29 yX4_isFit, Cond.methodLink RX1 33 yX4_quotient, Cond.static yX4_quotient, Cond.code yX4_quotient cX4_quotient 17 (some .long), Cond.methodLink RX1 36 yX4_cutToLong, Cond.static yX4_cutToLong, Cond.code yX4_cutToLong cX4_cutToLong 8 (some .long), Cond.methodLink RX1 40 yX4_leftOver, Cond.static yX4_leftOver, Cond.code yX4_leftOver cX4_leftOver 11 (some .long), Cond.methodLink RX4 61 Lib.Math.min.name, Cond.static Lib.Math.min.name, Cond.code Lib.Math.min.name Lib.Math.min.code 2 (some .int), Cond.methodLink RX7 80 yX7_done]
def wsX7_turn_r5 : List Cond := [Cond.instanceMethod yX7_done, Cond.selects RX7 yX7_done yX7_done, Cond.code yX7_done cX7_done 2 (some .int), Cond.fieldLink RX7 44 "OrreryDials" "latestFailure" "I", Cond.methodLink RX7 84 yX7_failWith, Cond.instanceMethod yX7_failWith, Cond.selects RX7 yX7_failWith yX7_failWith, Cond.code yX7_failWith cX7_failWith 3 (some .int), Cond.fieldLink RX7 47 "OrreryDials" "failureCounts" "[I"]
def wsX7_turn : List Cond := .code yX7_turn cX7_turn 7 (some .int) :: ((wsX7_turn_r1 ++ (wsX7_turn_r2 ++ (wsX7_turn_r3 ++ (wsX7_turn_r4 ++ wsX7_turn_r5)))) ++ wsX10 ++ wsX70)
def wsX7_spin_r1 : List Cond := [Cond.fieldLink RX7 72 "OrreryDials$Dial" "fine" "Z", Cond.methodLink RX7 68 yX7_dialAt, Cond.instanceMethod yX7_dialAt, Cond.selects RX7 yX7_dialAt yX7_dialAt, Cond.initialized RX7, Cond.code yX7_dialAt cX7_dialAt 2 (some (.object "OrreryDials$Dial")), Cond.fieldLink RX7 15 "OrreryDials" "dialCount" "I", Cond.fieldLink RX7 11 "OrreryDials" "dials" "[LOrreryDials$Dial;", Cond.methodLink RX7 52 yX4_told, Cond.static yX4_told, Cond.initialized RX4, Cond.code yX4_told cX4_told 3 (some .long), Cond.methodLink RX7 58 yX4_isFit, Cond.static yX4_isFit, Cond.code yX4_isFit cX4_isFit 3 (some .boolean), Cond.methodLink RX4 7 yX4_sizeOf, Cond.static yX4_sizeOf, Cond.code yX4_sizeOf cX4_sizeOf 3 (some .long), Cond.constantLong RX4 68 (9223372036854775807), Cond.constantLong RX4 82 (2147483647), Cond.methodLink RX4 13 yX4_endless, Cond.static yX4_endless, Cond.code yX4_endless cX4_endless 1 (some .long), Cond.constantLong RX4 86 (9218868437227405312)]
def wsX7_spin_r2 : List Cond := [Cond.constantLong RX4 88 (2139095040), Cond.methodLink RX7 76 yX1_turnBy, Cond.instanceMethod yX1_turnBy, Cond.selects RX1 yX1_turnBy yX1_turnBy, Cond.initialized RX1, Cond.code yX1_turnBy cX1_turnBy 5 (some .boolean), Cond.fieldLink RX1 16 "OrreryDials$Dial" "fine" "Z", Cond.fieldLink RX1 7 "OrreryDials$Dial" "place" "J", Cond.fieldLink RX1 13 "OrreryDials$Dial" "laps" "J", Cond.fieldLink RX1 20 "OrreryDials$Dial" "rim" "J", Cond.methodLink RX1 23 yX4_sum, Cond.static yX4_sum, Cond.code yX4_sum cX4_sum 19 (some .long), Cond.methodLink RX4 21 yX4_mantissa, Cond.static yX4_mantissa, Cond.code yX4_mantissa cX4_mantissa 7 (some .long), Cond.methodLink RX4 74 yX4_width, Cond.static yX4_width, Cond.code yX4_width cX4_width 1 (some .int), Cond.methodLink RX4 24 yX4_exponent, Cond.static yX4_exponent, Cond.code yX4_exponent cX4_exponent 4 (some .int), Cond.methodLink RX4 57 Lib.Math.max.name, Cond.static Lib.Math.max.name]
def wsX7_spin_r3 : List Cond := [Cond.initialized "java/lang/Math", Cond.code Lib.Math.max.name Lib.Math.max.code 2 (some .int), Cond.methodLink RX4 70 yX4_leastExponent, Cond.static yX4_leastExponent, Cond.code yX4_leastExponent cX4_leastExponent 1 (some .int), Cond.methodLink RX4 28 yX4_shiftedOut, Cond.static yX4_shiftedOut, Cond.code yX4_shiftedOut cX4_shiftedOut 3 (some .long), Cond.methodLink RX4 44 yX4_withMore, Cond.static yX4_withMore, Cond.code yX4_withMore cX4_withMore 4 (some .long), Cond.methodLink RX4 32 yX4_nearest, Cond.static yX4_nearest, Cond.code yX4_nearest cX4_nearest 13 (some .long), Cond.methodLink RX4 36 yX4_signed, Cond.static yX4_signed, Cond.code yX4_signed cX4_signed 6 (some .long), Cond.constantLong RX4 19 (-9223372036854775808), Cond.constantLong RX4 84 (-2147483648), Cond.methodLink RX4 40 yX4_lengthOf, Cond.static yX4_lengthOf, Cond.code yX4_lengthOf cX4_lengthOf 2 (some .int), Cond.methodLink RX4 54 yJ13_numberOfLeadingZeros_95d88, Cond.static yJ13_numberOfLeadingZeros_95d88]
def wsX7_spin_r4 : List Cond := [Cond.initialized RJ13, Cond.code yJ13_numberOfLeadingZeros_95d88 cJ13_numberOfLeadingZeros_95d88 3 (some .int), Cond.methodLink RJ13 308 yJ6_numberOfLeadingZeros_0f7a4, Cond.static yJ6_numberOfLeadingZeros_0f7a4, Cond.initialized RJ6, Cond.code yJ6_numberOfLeadingZeros_0f7a4 cJ6_numberOfLeadingZeros_0f7a4 2 (some .int), Cond.constant RJ6 264 (65536), Cond.methodLink RX4 77 yX4_rounded, Cond.static yX4_rounded, Cond.code yX4_rounded cX4_rounded 10 (some .long), Cond.methodLink RX1 29 yX4_isFit, Cond.methodLink RX1 33 yX4_quotient, Cond.static yX4_quotient, Cond.code yX4_quotient cX4_quotient 17 (some .long), Cond.methodLink RX1 36 yX4_cutToLong, Cond.static yX4_cutToLong, Cond.code yX4_cutToLong cX4_cutToLong 8 (some .long), Cond.methodLink RX1 40 yX4_leftOver, Cond.static yX4_leftOver, Cond.code yX4_leftOver cX4_leftOver 11 (some .long), Cond.methodLink RX4 61 Lib.Math.min.name, Cond.static Lib.Math.min.name, Cond.code Lib.Math.min.name Lib.Math.min.code 2 (some .int), Cond.methodLink RX7 84 yX7_failWith]
def wsX7_spin_r5 : List Cond := [Cond.instanceMethod yX7_failWith, Cond.selects RX7 yX7_failWith yX7_failWith, Cond.code yX7_failWith cX7_failWith 3 (some .int), Cond.fieldLink RX7 44 "OrreryDials" "latestFailure" "I", Cond.fieldLink RX7 47 "OrreryDials" "failureCounts" "[I", Cond.methodLink RX7 80 yX7_done, Cond.instanceMethod yX7_done, Cond.selects RX7 yX7_done yX7_done, Cond.code yX7_done cX7_done 2 (some .int)]
def wsX7_spin : List Cond := .code yX7_spin cX7_spin 9 (some .int) :: ((wsX7_spin_r1 ++ (wsX7_spin_r2 ++ (wsX7_spin_r3 ++ (wsX7_spin_r4 ++ wsX7_spin_r5)))) ++ wsX10 ++ wsX70)
def wsX7_place : List Cond := .code yX7_place cX7_place 4 (some .long) :: ([.fieldLink RX7 87 "OrreryDials$Dial" "place" "J", .fieldLink RX7 90 "OrreryDials$Dial" "rim" "J", .methodLink RX7 68 yX7_dialAt, .instanceMethod yX7_dialAt, .selects RX7 yX7_dialAt yX7_dialAt, .initialized RX7, .code yX7_dialAt cX7_dialAt 2 (some (.object "OrreryDials$Dial")), .fieldLink RX7 15 "OrreryDials" "dialCount" "I", .fieldLink RX7 11 "OrreryDials" "dials" "[LOrreryDials$Dial;"] ++ wsX10 ++ wsX70)
def wsX7_laps : List Cond := .code yX7_laps cX7_laps 3 (some .long) :: ([.fieldLink RX7 93 "OrreryDials$Dial" "laps" "J", .methodLink RX7 68 yX7_dialAt, .instanceMethod yX7_dialAt, .selects RX7 yX7_dialAt yX7_dialAt, .initialized RX7, .code yX7_dialAt cX7_dialAt 2 (some (.object "OrreryDials$Dial")), .fieldLink RX7 15 "OrreryDials" "dialCount" "I", .fieldLink RX7 11 "OrreryDials" "dials" "[LOrreryDials$Dial;"] ++ wsX10 ++ wsX70)
def wsX7_fine : List Cond := .code yX7_fine cX7_fine 3 (some .int) :: ([.fieldLink RX7 72 "OrreryDials$Dial" "fine" "Z", .methodLink RX7 68 yX7_dialAt, .instanceMethod yX7_dialAt, .selects RX7 yX7_dialAt yX7_dialAt, .initialized RX7, .code yX7_dialAt cX7_dialAt 2 (some (.object "OrreryDials$Dial")), .fieldLink RX7 15 "OrreryDials" "dialCount" "I", .fieldLink RX7 11 "OrreryDials" "dials" "[LOrreryDials$Dial;"] ++ wsX10 ++ wsX70)
def wsX7_newDrive_r1 : List Cond := [Cond.classLink RX7 176 RX6, Cond.instantiable RX6 3, Cond.initialized RX6, Cond.classLink RX7 112 RX0, Cond.instantiable RX0 4, Cond.initialized RX0, Cond.classLink RX7 182 RX3, Cond.instantiable RX3 4, Cond.initialized RX3, Cond.methodLink RX7 178 yX6_init, Cond.instanceMethod yX6_init, Cond.code yX6_init cX6_init 4 none, Cond.methodLink RX6 1 yX2_init, Cond.instanceMethod yX2_init, Cond.initialized RX2, Cond.code yX2_init cX2_init 4 none, Cond.methodLink RX2 1 objectInit, Cond.instanceMethod objectInit, Cond.code objectInit ⟨#[0xb1]⟩ 1 none, Cond.fieldLink RX2 7 "OrreryDials$Drive" "pullCount" "I", Cond.fieldLink RX2 13 "OrreryDials$Drive" "number" "I", Cond.fieldLink RX2 16 "OrreryDials$Drive" "pull" "J", Cond.methodLink RX7 181 yX0_init, Cond.instanceMethod yX0_init]
def wsX7_newDrive_r2 : List Cond := [Cond.code yX0_init cX0_init 4 none, Cond.fieldLink RX0 7 "OrreryDials$Crank" "gear" "I", Cond.methodLink RX0 1 yX2_init, Cond.methodLink RX7 184 yX3_init, Cond.instanceMethod yX3_init, Cond.code yX3_init cX3_init 4 none, Cond.methodLink RX3 1 yX0_init]
def wsX7_newDrive : List Cond := .code yX7_newDrive cX7_newDrive 4 (some (.object "OrreryDials$Drive")) :: ((wsX7_newDrive_r1 ++ wsX7_newDrive_r2) ++ wsX60 ++ wsX00 ++ wsX30)
def wsX7_drive_r1 : List Cond := [Cond.fieldLink RX7 25 "OrreryDials" "driveCount" "I", Cond.fieldLink RX7 21 "OrreryDials" "drives" "[LOrreryDials$Drive;", Cond.methodLink RX7 58 yX4_isFit, Cond.static yX4_isFit, Cond.initialized RX4, Cond.code yX4_isFit cX4_isFit 3 (some .boolean), Cond.methodLink RX4 7 yX4_sizeOf, Cond.static yX4_sizeOf, Cond.code yX4_sizeOf cX4_sizeOf 3 (some .long), Cond.constantLong RX4 68 (9223372036854775807), Cond.constantLong RX4 82 (2147483647), Cond.methodLink RX4 13 yX4_endless, Cond.static yX4_endless, Cond.code yX4_endless cX4_endless 1 (some .long), Cond.constantLong RX4 86 (9218868437227405312), Cond.constantLong RX4 88 (2139095040), Cond.methodLink RX7 96 yX7_newDrive, Cond.static yX7_newDrive, Cond.initialized RX7, Cond.code yX7_newDrive cX7_newDrive 4 (some (.object "OrreryDials$Drive")), Cond.classLink RX7 176 RX6, Cond.instantiable RX6 3, Cond.initialized RX6, Cond.classLink RX7 112 RX0]
def wsX7_drive_r2 : List Cond := [Cond.instantiable RX0 4, Cond.initialized RX0, Cond.classLink RX7 182 RX3, Cond.instantiable RX3 4, Cond.initialized RX3, Cond.methodLink RX7 178 yX6_init, Cond.instanceMethod yX6_init, Cond.code yX6_init cX6_init 4 none, Cond.methodLink RX6 1 yX2_init, Cond.instanceMethod yX2_init, Cond.initialized RX2, Cond.code yX2_init cX2_init 4 none, Cond.methodLink RX2 1 objectInit, Cond.instanceMethod objectInit, Cond.code objectInit ⟨#[0xb1]⟩ 1 none, Cond.fieldLink RX2 7 "OrreryDials$Drive" "pullCount" "I", Cond.fieldLink RX2 13 "OrreryDials$Drive" "number" "I", Cond.fieldLink RX2 16 "OrreryDials$Drive" "pull" "J", Cond.methodLink RX7 181 yX0_init, Cond.instanceMethod yX0_init, Cond.code yX0_init cX0_init 4 none, Cond.fieldLink RX0 7 "OrreryDials$Crank" "gear" "I", Cond.methodLink RX0 1 yX2_init, Cond.methodLink RX7 184 yX3_init]
def wsX7_drive_r3 : List Cond := [Cond.instanceMethod yX3_init, Cond.code yX3_init cX3_init 4 none, Cond.methodLink RX3 1 yX0_init]
def wsX7_drive : List Cond := .code yX7_drive cX7_drive 4 (some .int) :: ((wsX7_drive_r1 ++ (wsX7_drive_r2 ++ wsX7_drive_r3)) ++ wsX70 ++ wsX60 ++ wsX00 ++ wsX30)
def wsX7_driveAt : List Cond := .code yX7_driveAt cX7_driveAt 2 (some (.object "OrreryDials$Drive")) :: ([.fieldLink RX7 25 "OrreryDials" "driveCount" "I", .fieldLink RX7 21 "OrreryDials" "drives" "[LOrreryDials$Drive;"] ++ wsX70)
def wsX7_isSlot : List Cond := .code yX7_isSlot cX7_isSlot 1 (some .boolean) :: ([])
def wsX7_fit : List Cond := .code yX7_fit cX7_fit 4 (some .int) :: ([.fieldLink RX7 28 "OrreryDials" "slots" "[LOrreryDials$Drive;", .methodLink RX7 100 yX7_driveAt, .instanceMethod yX7_driveAt, .selects RX7 yX7_driveAt yX7_driveAt, .initialized RX7, .code yX7_driveAt cX7_driveAt 2 (some (.object "OrreryDials$Drive")), .fieldLink RX7 25 "OrreryDials" "driveCount" "I", .fieldLink RX7 21 "OrreryDials" "drives" "[LOrreryDials$Drive;", .methodLink RX7 104 yX7_isSlot, .static yX7_isSlot, .code yX7_isSlot cX7_isSlot 1 (some .boolean)] ++ wsX70)
def wsX7_pull_r1 : List Cond := [Cond.fieldLink RX7 28 "OrreryDials" "slots" "[LOrreryDials$Drive;", Cond.methodLink RX7 68 yX7_dialAt, Cond.instanceMethod yX7_dialAt, Cond.selects RX7 yX7_dialAt yX7_dialAt, Cond.initialized RX7, Cond.code yX7_dialAt cX7_dialAt 2 (some (.object "OrreryDials$Dial")), Cond.fieldLink RX7 15 "OrreryDials" "dialCount" "I", Cond.fieldLink RX7 11 "OrreryDials" "dials" "[LOrreryDials$Dial;", Cond.methodLink RX7 104 yX7_isSlot, Cond.static yX7_isSlot, Cond.code yX7_isSlot cX7_isSlot 1 (some .boolean), Cond.methodLink RX7 84 yX7_failWith, Cond.instanceMethod yX7_failWith, Cond.selects RX7 yX7_failWith yX7_failWith, Cond.code yX7_failWith cX7_failWith 3 (some .int), Cond.fieldLink RX7 44 "OrreryDials" "latestFailure" "I", Cond.fieldLink RX7 47 "OrreryDials" "failureCounts" "[I", Cond.methodLink RX7 108 ⟨"OrreryDials$Drive", "pullAt", "(LOrreryDials$Dial;)Z"⟩, Cond.sameMethod "OrreryDials$Drive" "OrreryDials$Drive" "pullAt" "(LOrreryDials$Dial;)Z", Cond.selects RX0 ⟨"OrreryDials$Drive", "pullAt", "(LOrreryDials$Dial;)Z"⟩ yX2_pullAt, Cond.instanceMethod yX2_pullAt, Cond.initialized RX2, Cond.code yX2_pullAt cX2_pullAt 6 (some .boolean), Cond.fieldLink RX2 20 "OrreryDials$Dial" "fine" "Z"]
def wsX7_pull_r2 : List Cond := [Cond.fieldLink RX2 26 "OrreryDials$Dial" "place" "J", Cond.fieldLink RX2 7 "OrreryDials$Drive" "pullCount" "I", Cond.methodLink RX2 29 yX4_ofReal, Cond.static yX4_ofReal, Cond.initialized RX4, Cond.code yX4_ofReal cX4_ofReal 4 (some .long), Cond.methodLink RX4 64 yX4_isFit, Cond.static yX4_isFit, Cond.code yX4_isFit cX4_isFit 3 (some .boolean), Cond.methodLink RX4 7 yX4_sizeOf, Cond.static yX4_sizeOf, Cond.code yX4_sizeOf cX4_sizeOf 3 (some .long), Cond.constantLong RX4 68 (9223372036854775807), Cond.constantLong RX4 82 (2147483647), Cond.methodLink RX4 13 yX4_endless, Cond.static yX4_endless, Cond.code yX4_endless cX4_endless 1 (some .long), Cond.constantLong RX4 86 (9218868437227405312), Cond.constantLong RX4 88 (2139095040), Cond.methodLink RX4 36 yX4_signed, Cond.static yX4_signed, Cond.code yX4_signed cX4_signed 6 (some .long), Cond.constantLong RX4 19 (-9223372036854775808), Cond.constantLong RX4 84 (-2147483648)]
def wsX7_pull_r3 : List Cond := [Cond.methodLink RX4 21 yX4_mantissa, Cond.static yX4_mantissa, Cond.code yX4_mantissa cX4_mantissa 7 (some .long), Cond.methodLink RX4 74 yX4_width, Cond.static yX4_width, Cond.code yX4_width cX4_width 1 (some .int), Cond.methodLink RX4 24 yX4_exponent, Cond.static yX4_exponent, Cond.code yX4_exponent cX4_exponent 4 (some .int), Cond.methodLink RX4 57 Lib.Math.max.name, Cond.static Lib.Math.max.name, Cond.initialized "java/lang/Math", Cond.code Lib.Math.max.name Lib.Math.max.code 2 (some .int), Cond.methodLink RX4 70 yX4_leastExponent, Cond.static yX4_leastExponent, Cond.code yX4_leastExponent cX4_leastExponent 1 (some .int), Cond.methodLink RX4 32 yX4_nearest, Cond.static yX4_nearest, Cond.code yX4_nearest cX4_nearest 13 (some .long), Cond.methodLink RX4 40 yX4_lengthOf, Cond.static yX4_lengthOf, Cond.code yX4_lengthOf cX4_lengthOf 2 (some .int), Cond.methodLink RX4 54 yJ13_numberOfLeadingZeros_95d88, Cond.static yJ13_numberOfLeadingZeros_95d88]
def wsX7_pull_r4 : List Cond := [Cond.initialized RJ13, Cond.code yJ13_numberOfLeadingZeros_95d88 cJ13_numberOfLeadingZeros_95d88 3 (some .int), Cond.methodLink RJ13 308 yJ6_numberOfLeadingZeros_0f7a4, Cond.static yJ6_numberOfLeadingZeros_0f7a4, Cond.initialized RJ6, Cond.code yJ6_numberOfLeadingZeros_0f7a4 cJ6_numberOfLeadingZeros_0f7a4 2 (some .int), Cond.constant RJ6 264 (65536), Cond.methodLink RX4 77 yX4_rounded, Cond.static yX4_rounded, Cond.code yX4_rounded cX4_rounded 10 (some .long), Cond.methodLink RX2 35 ⟨"OrreryDials$Drive", "forceAt", "(J)J"⟩, Cond.sameMethod "OrreryDials$Drive" "OrreryDials$Drive" "forceAt" "(J)J", Cond.selects RX0 ⟨"OrreryDials$Drive", "forceAt", "(J)J"⟩ yX0_forceAt, Cond.instanceMethod yX0_forceAt, Cond.initialized RX0, Cond.code yX0_forceAt cX0_forceAt 3 (some .long), Cond.fieldLink RX0 13 "OrreryDials$Crank" "pull" "J", Cond.sameField "OrreryDials$Crank" "OrreryDials$Drive" "pull" "J", Cond.fieldLink RX0 7 "OrreryDials$Crank" "gear" "I", Cond.methodLink RX0 17 yX4_timesInt, Cond.static yX4_timesInt, Cond.code yX4_timesInt cX4_timesInt 4 (some .long), Cond.methodLink RX4 48 Lib.MathLoose.abs_long.x, Cond.static Lib.MathLoose.abs_long.x]
def wsX7_pull_r5 : List Cond := [Cond.code Lib.MathLoose.abs_long.x Lib.MathLoose.abs_long.code 2 (some .long), Cond.selects RX3 ⟨"OrreryDials$Drive", "forceAt", "(J)J"⟩ yX3_forceAt, Cond.instanceMethod yX3_forceAt, Cond.initialized RX3, Cond.code yX3_forceAt cX3_forceAt 7 (some .long), Cond.fieldLink RX3 7 "OrreryDials$Flywheel" "pull" "J", Cond.sameField "OrreryDials$Flywheel" "OrreryDials$Drive" "pull" "J", Cond.fieldLink RX3 13 "OrreryDials$Flywheel" "gear" "I", Cond.sameField "OrreryDials$Flywheel" "OrreryDials$Crank" "gear" "I", Cond.fieldLink RX3 27 "OrreryDials$Flywheel" "pullCount" "I", Cond.sameField "OrreryDials$Flywheel" "OrreryDials$Drive" "pullCount" "I", Cond.methodLink RX3 17 yX4_timesInt, Cond.methodLink RX3 23 yX4_isFit, Cond.methodLink RX3 30 yX4_sum, Cond.static yX4_sum, Cond.code yX4_sum cX4_sum 19 (some .long), Cond.methodLink RX4 28 yX4_shiftedOut, Cond.static yX4_shiftedOut, Cond.code yX4_shiftedOut cX4_shiftedOut 3 (some .long), Cond.methodLink RX4 44 yX4_withMore, Cond.static yX4_withMore, Cond.code yX4_withMore cX4_withMore 4 (some .long), Cond.selects RX6 ⟨"OrreryDials$Drive", "forceAt", "(J)J"⟩ yX6_forceAt, Cond.instanceMethod yX6_forceAt]
def wsX7_pull_r6 : List Cond := [Cond.initialized RX6, Cond.code yX6_forceAt cX6_forceAt 3 (some .long), Cond.fieldLink RX6 7 "OrreryDials$Spring" "pull" "J", Cond.sameField "OrreryDials$Spring" "OrreryDials$Drive" "pull" "J", Cond.methodLink RX6 13 yX4_negated, Cond.static yX4_negated, Cond.code yX4_negated cX4_negated 2 (some .long), Cond.methodLink RX6 19 yX4_sum, Cond.methodLink RX2 39 yX4_isFit, Cond.methodLink RX2 43 yX1_turnBy, Cond.instanceMethod yX1_turnBy, Cond.selects RX1 yX1_turnBy yX1_turnBy, Cond.initialized RX1, Cond.code yX1_turnBy cX1_turnBy 5 (some .boolean), Cond.fieldLink RX1 16 "OrreryDials$Dial" "fine" "Z", Cond.fieldLink RX1 7 "OrreryDials$Dial" "place" "J", Cond.fieldLink RX1 13 "OrreryDials$Dial" "laps" "J", Cond.fieldLink RX1 20 "OrreryDials$Dial" "rim" "J", Cond.methodLink RX1 23 yX4_sum, Cond.methodLink RX1 29 yX4_isFit, Cond.methodLink RX1 33 yX4_quotient, Cond.static yX4_quotient, Cond.code yX4_quotient cX4_quotient 17 (some .long), Cond.methodLink RX1 36 yX4_cutToLong]
def wsX7_pull_r7 : List Cond := [Cond.static yX4_cutToLong, Cond.code yX4_cutToLong cX4_cutToLong 8 (some .long), Cond.methodLink RX1 40 yX4_leftOver, Cond.static yX4_leftOver, Cond.code yX4_leftOver cX4_leftOver 11 (some .long), Cond.methodLink RX4 61 Lib.Math.min.name, Cond.static Lib.Math.min.name, Cond.code Lib.Math.min.name Lib.Math.min.code 2 (some .int), Cond.selects RX3 ⟨"OrreryDials$Drive", "pullAt", "(LOrreryDials$Dial;)Z"⟩ yX2_pullAt, Cond.selects RX6 ⟨"OrreryDials$Drive", "pullAt", "(LOrreryDials$Dial;)Z"⟩ yX2_pullAt, Cond.methodLink RX7 80 yX7_done, Cond.instanceMethod yX7_done, Cond.selects RX7 yX7_done yX7_done, Cond.code yX7_done cX7_done 2 (some .int)]
def wsX7_pull : List Cond := .code yX7_pull cX7_pull 5 (some .int) :: ((wsX7_pull_r1 ++ (wsX7_pull_r2 ++ (wsX7_pull_r3 ++ (wsX7_pull_r4 ++ (wsX7_pull_r5 ++ (wsX7_pull_r6 ++ wsX7_pull_r7)))))) ++ wsX70 ++ wsX10 ++ wsX00 ++ wsX30 ++ wsX60)
def wsX7_gear : List Cond := .code yX7_gear cX7_gear 6 (some .int) :: ([.fieldLink RX7 28 "OrreryDials" "slots" "[LOrreryDials$Drive;", .classLink RX7 112 "OrreryDials$Crank", .fieldLink RX7 114 "OrreryDials$Crank" "gear" "I", .methodLink RX7 104 yX7_isSlot, .static yX7_isSlot, .initialized RX7, .code yX7_isSlot cX7_isSlot 1 (some .boolean), .methodLink RX7 84 yX7_failWith, .instanceMethod yX7_failWith, .selects RX7 yX7_failWith yX7_failWith, .code yX7_failWith cX7_failWith 3 (some .int), .fieldLink RX7 44 "OrreryDials" "latestFailure" "I", .fieldLink RX7 47 "OrreryDials" "failureCounts" "[I", .methodLink RX7 80 yX7_done, .instanceMethod yX7_done, .selects RX7 yX7_done yX7_done, .code yX7_done cX7_done 2 (some .int)] ++ wsX70 ++ wsX00 ++ wsX30)
def wsX7_isShaft : List Cond := .code yX7_isShaft cX7_isShaft 1 (some .boolean) :: ([])
def wsX7_isShaftPlace : List Cond := .code yX7_isShaftPlace cX7_isShaftPlace 1 (some .boolean) :: ([])
def wsX7_lay : List Cond := .code yX7_lay cX7_lay 5 (some .int) :: ([.fieldLink RX7 28 "OrreryDials" "slots" "[LOrreryDials$Drive;", .classLink RX7 112 "OrreryDials$Crank", .fieldLink RX7 31 "OrreryDials" "shaftPlaces" "[LOrreryDials$Drive;", .methodLink RX7 117 yX7_isShaft, .static yX7_isShaft, .initialized RX7, .code yX7_isShaft cX7_isShaft 1 (some .boolean), .methodLink RX7 104 yX7_isSlot, .static yX7_isSlot, .code yX7_isSlot cX7_isSlot 1 (some .boolean), .methodLink RX7 120 yX7_isShaftPlace, .static yX7_isShaftPlace, .code yX7_isShaftPlace cX7_isShaftPlace 1 (some .boolean), .methodLink RX7 84 yX7_failWith, .instanceMethod yX7_failWith, .selects RX7 yX7_failWith yX7_failWith, .code yX7_failWith cX7_failWith 3 (some .int), .fieldLink RX7 44 "OrreryDials" "latestFailure" "I", .fieldLink RX7 47 "OrreryDials" "failureCounts" "[I", .methodLink RX7 80 yX7_done, .instanceMethod yX7_done, .selects RX7 yX7_done yX7_done, .code yX7_done cX7_done 2 (some .int)] ++ wsX70)
def wsX7_wind_r1 : List Cond := [Cond.fieldLink RX7 31 "OrreryDials" "shaftPlaces" "[LOrreryDials$Drive;", Cond.methodLink RX7 68 yX7_dialAt, Cond.instanceMethod yX7_dialAt, Cond.selects RX7 yX7_dialAt yX7_dialAt, Cond.initialized RX7, Cond.code yX7_dialAt cX7_dialAt 2 (some (.object "OrreryDials$Dial")), Cond.fieldLink RX7 15 "OrreryDials" "dialCount" "I", Cond.fieldLink RX7 11 "OrreryDials" "dials" "[LOrreryDials$Dial;", Cond.methodLink RX7 117 yX7_isShaft, Cond.static yX7_isShaft, Cond.code yX7_isShaft cX7_isShaft 1 (some .boolean), Cond.methodLink RX7 84 yX7_failWith, Cond.instanceMethod yX7_failWith, Cond.selects RX7 yX7_failWith yX7_failWith, Cond.code yX7_failWith cX7_failWith 3 (some .int), Cond.fieldLink RX7 44 "OrreryDials" "latestFailure" "I", Cond.fieldLink RX7 47 "OrreryDials" "failureCounts" "[I", Cond.methodLink RX7 108 ⟨"OrreryDials$Drive", "pullAt", "(LOrreryDials$Dial;)Z"⟩, Cond.sameMethod "OrreryDials$Drive" "OrreryDials$Drive" "pullAt" "(LOrreryDials$Dial;)Z", Cond.selects RX0 ⟨"OrreryDials$Drive", "pullAt", "(LOrreryDials$Dial;)Z"⟩ yX2_pullAt, Cond.instanceMethod yX2_pullAt, Cond.initialized RX2, Cond.code yX2_pullAt cX2_pullAt 6 (some .boolean), Cond.fieldLink RX2 20 "OrreryDials$Dial" "fine" "Z"]
def wsX7_wind_r2 : List Cond := [Cond.fieldLink RX2 26 "OrreryDials$Dial" "place" "J", Cond.fieldLink RX2 7 "OrreryDials$Drive" "pullCount" "I", Cond.methodLink RX2 29 yX4_ofReal, Cond.static yX4_ofReal, Cond.initialized RX4, Cond.code yX4_ofReal cX4_ofReal 4 (some .long), Cond.methodLink RX4 64 yX4_isFit, Cond.static yX4_isFit, Cond.code yX4_isFit cX4_isFit 3 (some .boolean), Cond.methodLink RX4 7 yX4_sizeOf, Cond.static yX4_sizeOf, Cond.code yX4_sizeOf cX4_sizeOf 3 (some .long), Cond.constantLong RX4 68 (9223372036854775807), Cond.constantLong RX4 82 (2147483647), Cond.methodLink RX4 13 yX4_endless, Cond.static yX4_endless, Cond.code yX4_endless cX4_endless 1 (some .long), Cond.constantLong RX4 86 (9218868437227405312), Cond.constantLong RX4 88 (2139095040), Cond.methodLink RX4 36 yX4_signed, Cond.static yX4_signed, Cond.code yX4_signed cX4_signed 6 (some .long), Cond.constantLong RX4 19 (-9223372036854775808), Cond.constantLong RX4 84 (-2147483648)]
def wsX7_wind_r3 : List Cond := [Cond.methodLink RX4 21 yX4_mantissa, Cond.static yX4_mantissa, Cond.code yX4_mantissa cX4_mantissa 7 (some .long), Cond.methodLink RX4 74 yX4_width, Cond.static yX4_width, Cond.code yX4_width cX4_width 1 (some .int), Cond.methodLink RX4 24 yX4_exponent, Cond.static yX4_exponent, Cond.code yX4_exponent cX4_exponent 4 (some .int), Cond.methodLink RX4 57 Lib.Math.max.name, Cond.static Lib.Math.max.name, Cond.initialized "java/lang/Math", Cond.code Lib.Math.max.name Lib.Math.max.code 2 (some .int), Cond.methodLink RX4 70 yX4_leastExponent, Cond.static yX4_leastExponent, Cond.code yX4_leastExponent cX4_leastExponent 1 (some .int), Cond.methodLink RX4 32 yX4_nearest, Cond.static yX4_nearest, Cond.code yX4_nearest cX4_nearest 13 (some .long), Cond.methodLink RX4 40 yX4_lengthOf, Cond.static yX4_lengthOf, Cond.code yX4_lengthOf cX4_lengthOf 2 (some .int), Cond.methodLink RX4 54 yJ13_numberOfLeadingZeros_95d88, Cond.static yJ13_numberOfLeadingZeros_95d88]
def wsX7_wind_r4 : List Cond := [Cond.initialized RJ13, Cond.code yJ13_numberOfLeadingZeros_95d88 cJ13_numberOfLeadingZeros_95d88 3 (some .int), Cond.methodLink RJ13 308 yJ6_numberOfLeadingZeros_0f7a4, Cond.static yJ6_numberOfLeadingZeros_0f7a4, Cond.initialized RJ6, Cond.code yJ6_numberOfLeadingZeros_0f7a4 cJ6_numberOfLeadingZeros_0f7a4 2 (some .int), Cond.constant RJ6 264 (65536), Cond.methodLink RX4 77 yX4_rounded, Cond.static yX4_rounded, Cond.code yX4_rounded cX4_rounded 10 (some .long), Cond.methodLink RX2 35 ⟨"OrreryDials$Drive", "forceAt", "(J)J"⟩, Cond.sameMethod "OrreryDials$Drive" "OrreryDials$Drive" "forceAt" "(J)J", Cond.selects RX0 ⟨"OrreryDials$Drive", "forceAt", "(J)J"⟩ yX0_forceAt, Cond.instanceMethod yX0_forceAt, Cond.initialized RX0, Cond.code yX0_forceAt cX0_forceAt 3 (some .long), Cond.fieldLink RX0 13 "OrreryDials$Crank" "pull" "J", Cond.sameField "OrreryDials$Crank" "OrreryDials$Drive" "pull" "J", Cond.fieldLink RX0 7 "OrreryDials$Crank" "gear" "I", Cond.methodLink RX0 17 yX4_timesInt, Cond.static yX4_timesInt, Cond.code yX4_timesInt cX4_timesInt 4 (some .long), Cond.methodLink RX4 48 Lib.MathLoose.abs_long.x, Cond.static Lib.MathLoose.abs_long.x]
def wsX7_wind_r5 : List Cond := [Cond.code Lib.MathLoose.abs_long.x Lib.MathLoose.abs_long.code 2 (some .long), Cond.selects RX3 ⟨"OrreryDials$Drive", "forceAt", "(J)J"⟩ yX3_forceAt, Cond.instanceMethod yX3_forceAt, Cond.initialized RX3, Cond.code yX3_forceAt cX3_forceAt 7 (some .long), Cond.fieldLink RX3 7 "OrreryDials$Flywheel" "pull" "J", Cond.sameField "OrreryDials$Flywheel" "OrreryDials$Drive" "pull" "J", Cond.fieldLink RX3 13 "OrreryDials$Flywheel" "gear" "I", Cond.sameField "OrreryDials$Flywheel" "OrreryDials$Crank" "gear" "I", Cond.fieldLink RX3 27 "OrreryDials$Flywheel" "pullCount" "I", Cond.sameField "OrreryDials$Flywheel" "OrreryDials$Drive" "pullCount" "I", Cond.methodLink RX3 17 yX4_timesInt, Cond.methodLink RX3 23 yX4_isFit, Cond.methodLink RX3 30 yX4_sum, Cond.static yX4_sum, Cond.code yX4_sum cX4_sum 19 (some .long), Cond.methodLink RX4 28 yX4_shiftedOut, Cond.static yX4_shiftedOut, Cond.code yX4_shiftedOut cX4_shiftedOut 3 (some .long), Cond.methodLink RX4 44 yX4_withMore, Cond.static yX4_withMore, Cond.code yX4_withMore cX4_withMore 4 (some .long), Cond.selects RX6 ⟨"OrreryDials$Drive", "forceAt", "(J)J"⟩ yX6_forceAt, Cond.instanceMethod yX6_forceAt]
def wsX7_wind_r6 : List Cond := [Cond.initialized RX6, Cond.code yX6_forceAt cX6_forceAt 3 (some .long), Cond.fieldLink RX6 7 "OrreryDials$Spring" "pull" "J", Cond.sameField "OrreryDials$Spring" "OrreryDials$Drive" "pull" "J", Cond.methodLink RX6 13 yX4_negated, Cond.static yX4_negated, Cond.code yX4_negated cX4_negated 2 (some .long), Cond.methodLink RX6 19 yX4_sum, Cond.methodLink RX2 39 yX4_isFit, Cond.methodLink RX2 43 yX1_turnBy, Cond.instanceMethod yX1_turnBy, Cond.selects RX1 yX1_turnBy yX1_turnBy, Cond.initialized RX1, Cond.code yX1_turnBy cX1_turnBy 5 (some .boolean), Cond.fieldLink RX1 16 "OrreryDials$Dial" "fine" "Z", Cond.fieldLink RX1 7 "OrreryDials$Dial" "place" "J", Cond.fieldLink RX1 13 "OrreryDials$Dial" "laps" "J", Cond.fieldLink RX1 20 "OrreryDials$Dial" "rim" "J", Cond.methodLink RX1 23 yX4_sum, Cond.methodLink RX1 29 yX4_isFit, Cond.methodLink RX1 33 yX4_quotient, Cond.static yX4_quotient, Cond.code yX4_quotient cX4_quotient 17 (some .long), Cond.methodLink RX1 36 yX4_cutToLong]
def wsX7_wind_r7 : List Cond := [Cond.static yX4_cutToLong, Cond.code yX4_cutToLong cX4_cutToLong 8 (some .long), Cond.methodLink RX1 40 yX4_leftOver, Cond.static yX4_leftOver, Cond.code yX4_leftOver cX4_leftOver 11 (some .long), Cond.methodLink RX4 61 Lib.Math.min.name, Cond.static Lib.Math.min.name, Cond.code Lib.Math.min.name Lib.Math.min.code 2 (some .int), Cond.selects RX3 ⟨"OrreryDials$Drive", "pullAt", "(LOrreryDials$Dial;)Z"⟩ yX2_pullAt, Cond.selects RX6 ⟨"OrreryDials$Drive", "pullAt", "(LOrreryDials$Dial;)Z"⟩ yX2_pullAt, Cond.methodLink RX7 80 yX7_done, Cond.instanceMethod yX7_done, Cond.selects RX7 yX7_done yX7_done, Cond.code yX7_done cX7_done 2 (some .int)]
def wsX7_wind : List Cond := .code yX7_wind cX7_wind 6 (some .int) :: ((wsX7_wind_r1 ++ (wsX7_wind_r2 ++ (wsX7_wind_r3 ++ (wsX7_wind_r4 ++ (wsX7_wind_r5 ++ (wsX7_wind_r6 ++ wsX7_wind_r7)))))) ++ wsX70 ++ wsX10 ++ wsX00 ++ wsX30 ++ wsX60)
def wsX7_laid : List Cond := .code yX7_laid cX7_laid 4 (some .int) :: ([.fieldLink RX7 31 "OrreryDials" "shaftPlaces" "[LOrreryDials$Drive;", .fieldLink RX7 123 "OrreryDials$Drive" "number" "I", .methodLink RX7 117 yX7_isShaft, .static yX7_isShaft, .initialized RX7, .code yX7_isShaft cX7_isShaft 1 (some .boolean), .methodLink RX7 120 yX7_isShaftPlace, .static yX7_isShaftPlace, .code yX7_isShaftPlace cX7_isShaftPlace 1 (some .boolean), .methodLink RX7 84 yX7_failWith, .instanceMethod yX7_failWith, .selects RX7 yX7_failWith yX7_failWith, .code yX7_failWith cX7_failWith 3 (some .int), .fieldLink RX7 44 "OrreryDials" "latestFailure" "I", .fieldLink RX7 47 "OrreryDials" "failureCounts" "[I", .methodLink RX7 80 yX7_done, .instanceMethod yX7_done, .selects RX7 yX7_done yX7_done, .code yX7_done cX7_done 2 (some .int)] ++ wsX70 ++ wsX00 ++ wsX30 ++ wsX60)
def wsX7_pulls : List Cond := .code yX7_pulls cX7_pulls 3 (some .int) :: ([.fieldLink RX7 126 "OrreryDials$Drive" "pullCount" "I", .methodLink RX7 100 yX7_driveAt, .instanceMethod yX7_driveAt, .selects RX7 yX7_driveAt yX7_driveAt, .initialized RX7, .code yX7_driveAt cX7_driveAt 2 (some (.object "OrreryDials$Drive")), .fieldLink RX7 25 "OrreryDials" "driveCount" "I", .fieldLink RX7 21 "OrreryDials" "drives" "[LOrreryDials$Drive;"] ++ wsX00 ++ wsX30 ++ wsX60 ++ wsX70)
def wsX7_rowAt : List Cond := .code yX7_rowAt cX7_rowAt 3 (some (.object "OrreryDials$Row")) :: ([.fieldLink RX7 36 "OrreryDials" "rows" "[LOrreryDials$Row;"] ++ wsX70)
def wsX7_log : List Cond := .code yX7_log cX7_log 5 (some .int) :: ([.methodLink RX7 129 yX7_rowAt, .instanceMethod yX7_rowAt, .selects RX7 yX7_rowAt yX7_rowAt, .initialized RX7, .code yX7_rowAt cX7_rowAt 3 (some (.object "OrreryDials$Row")), .fieldLink RX7 36 "OrreryDials" "rows" "[LOrreryDials$Row;", .methodLink RX7 133 yX5_renew, .instanceMethod yX5_renew, .selects RX5 yX5_renew yX5_renew, .initialized RX5, .code yX5_renew cX5_renew 3 none, .fieldLink RX5 9 "OrreryDials$Row" "places" "[J", .fieldLink RX5 15 "OrreryDials$Row" "size" "I"] ++ wsX70 ++ wsX50)
def wsX7_write_r1 : List Cond := [Cond.fieldLink RX7 140 "OrreryDials$Row" "places" "[J", Cond.methodLink RX7 129 yX7_rowAt, Cond.instanceMethod yX7_rowAt, Cond.selects RX7 yX7_rowAt yX7_rowAt, Cond.initialized RX7, Cond.code yX7_rowAt cX7_rowAt 3 (some (.object "OrreryDials$Row")), Cond.fieldLink RX7 36 "OrreryDials" "rows" "[LOrreryDials$Row;", Cond.methodLink RX7 52 yX4_told, Cond.static yX4_told, Cond.initialized RX4, Cond.code yX4_told cX4_told 3 (some .long), Cond.methodLink RX7 58 yX4_isFit, Cond.static yX4_isFit, Cond.code yX4_isFit cX4_isFit 3 (some .boolean), Cond.methodLink RX4 7 yX4_sizeOf, Cond.static yX4_sizeOf, Cond.code yX4_sizeOf cX4_sizeOf 3 (some .long), Cond.constantLong RX4 68 (9223372036854775807), Cond.constantLong RX4 82 (2147483647), Cond.methodLink RX4 13 yX4_endless, Cond.static yX4_endless, Cond.code yX4_endless cX4_endless 1 (some .long), Cond.constantLong RX4 86 (9218868437227405312), Cond.constantLong RX4 88 (2139095040)]
def wsX7_write_r2 : List Cond := [Cond.methodLink RX7 137 yX5_failureAt, Cond.instanceMethod yX5_failureAt, Cond.selects RX5 yX5_failureAt yX5_failureAt, Cond.initialized RX5, Cond.code yX5_failureAt cX5_failureAt 2 (some .int), Cond.fieldLink RX5 15 "OrreryDials$Row" "size" "I", Cond.methodLink RX5 19 yX5_isMissing, Cond.instanceMethod yX5_isMissing, Cond.selects RX5 yX5_isMissing yX5_isMissing, Cond.code yX5_isMissing cX5_isMissing 1 (some .boolean), Cond.methodLink RX7 84 yX7_failWith, Cond.instanceMethod yX7_failWith, Cond.selects RX7 yX7_failWith yX7_failWith, Cond.code yX7_failWith cX7_failWith 3 (some .int), Cond.fieldLink RX7 44 "OrreryDials" "latestFailure" "I", Cond.fieldLink RX7 47 "OrreryDials" "failureCounts" "[I", Cond.methodLink RX7 80 yX7_done, Cond.instanceMethod yX7_done, Cond.selects RX7 yX7_done yX7_done, Cond.code yX7_done cX7_done 2 (some .int)]
def wsX7_write : List Cond := .code yX7_write cX7_write 10 (some .int) :: ((wsX7_write_r1 ++ wsX7_write_r2) ++ wsX50 ++ wsX70)
def wsX7_read_r1 : List Cond := [Cond.fieldLink RX7 140 "OrreryDials$Row" "places" "[J", Cond.fieldLink RX7 40 "OrreryDials" "seenBits" "J", Cond.methodLink RX7 129 yX7_rowAt, Cond.instanceMethod yX7_rowAt, Cond.selects RX7 yX7_rowAt yX7_rowAt, Cond.initialized RX7, Cond.code yX7_rowAt cX7_rowAt 3 (some (.object "OrreryDials$Row")), Cond.fieldLink RX7 36 "OrreryDials" "rows" "[LOrreryDials$Row;", Cond.methodLink RX7 137 yX5_failureAt, Cond.instanceMethod yX5_failureAt, Cond.selects RX5 yX5_failureAt yX5_failureAt, Cond.initialized RX5, Cond.code yX5_failureAt cX5_failureAt 2 (some .int), Cond.fieldLink RX5 15 "OrreryDials$Row" "size" "I", Cond.methodLink RX5 19 yX5_isMissing, Cond.instanceMethod yX5_isMissing, Cond.selects RX5 yX5_isMissing yX5_isMissing, Cond.code yX5_isMissing cX5_isMissing 1 (some .boolean), Cond.methodLink RX7 84 yX7_failWith, Cond.instanceMethod yX7_failWith, Cond.selects RX7 yX7_failWith yX7_failWith, Cond.code yX7_failWith cX7_failWith 3 (some .int), Cond.fieldLink RX7 44 "OrreryDials" "latestFailure" "I", Cond.fieldLink RX7 47 "OrreryDials" "failureCounts" "[I"]
def wsX7_read_r2 : List Cond := [Cond.methodLink RX7 80 yX7_done, Cond.instanceMethod yX7_done, Cond.selects RX7 yX7_done yX7_done, Cond.code yX7_done cX7_done 2 (some .int)]
def wsX7_read : List Cond := .code yX7_read cX7_read 6 (some .int) :: ((wsX7_read_r1 ++ wsX7_read_r2) ++ wsX50 ++ wsX70)
def wsX7_seen : List Cond := .code yX7_seen cX7_seen 1 (some .long) :: ([.fieldLink RX7 40 "OrreryDials" "seenBits" "J"] ++ wsX70)
def wsX7_note_r1 : List Cond := [Cond.fieldLink RX7 140 "OrreryDials$Row" "places" "[J", Cond.fieldLink RX7 72 "OrreryDials$Dial" "fine" "Z", Cond.fieldLink RX7 87 "OrreryDials$Dial" "place" "J", Cond.methodLink RX7 129 yX7_rowAt, Cond.instanceMethod yX7_rowAt, Cond.selects RX7 yX7_rowAt yX7_rowAt, Cond.initialized RX7, Cond.code yX7_rowAt cX7_rowAt 3 (some (.object "OrreryDials$Row")), Cond.fieldLink RX7 36 "OrreryDials" "rows" "[LOrreryDials$Row;", Cond.methodLink RX7 68 yX7_dialAt, Cond.instanceMethod yX7_dialAt, Cond.selects RX7 yX7_dialAt yX7_dialAt, Cond.code yX7_dialAt cX7_dialAt 2 (some (.object "OrreryDials$Dial")), Cond.fieldLink RX7 15 "OrreryDials" "dialCount" "I", Cond.fieldLink RX7 11 "OrreryDials" "dials" "[LOrreryDials$Dial;", Cond.methodLink RX7 137 yX5_failureAt, Cond.instanceMethod yX5_failureAt, Cond.selects RX5 yX5_failureAt yX5_failureAt, Cond.initialized RX5, Cond.code yX5_failureAt cX5_failureAt 2 (some .int), Cond.fieldLink RX5 15 "OrreryDials$Row" "size" "I", Cond.methodLink RX5 19 yX5_isMissing, Cond.instanceMethod yX5_isMissing, Cond.selects RX5 yX5_isMissing yX5_isMissing]
def wsX7_note_r2 : List Cond := [Cond.code yX5_isMissing cX5_isMissing 1 (some .boolean), Cond.methodLink RX7 84 yX7_failWith, Cond.instanceMethod yX7_failWith, Cond.selects RX7 yX7_failWith yX7_failWith, Cond.code yX7_failWith cX7_failWith 3 (some .int), Cond.fieldLink RX7 44 "OrreryDials" "latestFailure" "I", Cond.fieldLink RX7 47 "OrreryDials" "failureCounts" "[I", Cond.methodLink RX7 144 yX4_ofReal, Cond.static yX4_ofReal, Cond.initialized RX4, Cond.code yX4_ofReal cX4_ofReal 4 (some .long), Cond.methodLink RX4 64 yX4_isFit, Cond.static yX4_isFit, Cond.code yX4_isFit cX4_isFit 3 (some .boolean), Cond.methodLink RX4 7 yX4_sizeOf, Cond.static yX4_sizeOf, Cond.code yX4_sizeOf cX4_sizeOf 3 (some .long), Cond.constantLong RX4 68 (9223372036854775807), Cond.constantLong RX4 82 (2147483647), Cond.methodLink RX4 13 yX4_endless, Cond.static yX4_endless, Cond.code yX4_endless cX4_endless 1 (some .long), Cond.constantLong RX4 86 (9218868437227405312), Cond.constantLong RX4 88 (2139095040)]
def wsX7_note_r3 : List Cond := [Cond.methodLink RX4 36 yX4_signed, Cond.static yX4_signed, Cond.code yX4_signed cX4_signed 6 (some .long), Cond.constantLong RX4 19 (-9223372036854775808), Cond.constantLong RX4 84 (-2147483648), Cond.methodLink RX4 21 yX4_mantissa, Cond.static yX4_mantissa, Cond.code yX4_mantissa cX4_mantissa 7 (some .long), Cond.methodLink RX4 74 yX4_width, Cond.static yX4_width, Cond.code yX4_width cX4_width 1 (some .int), Cond.methodLink RX4 24 yX4_exponent, Cond.static yX4_exponent, Cond.code yX4_exponent cX4_exponent 4 (some .int), Cond.methodLink RX4 57 Lib.Math.max.name, Cond.static Lib.Math.max.name, Cond.initialized "java/lang/Math", Cond.code Lib.Math.max.name Lib.Math.max.code 2 (some .int), Cond.methodLink RX4 70 yX4_leastExponent, Cond.static yX4_leastExponent, Cond.code yX4_leastExponent cX4_leastExponent 1 (some .int), Cond.methodLink RX4 32 yX4_nearest, Cond.static yX4_nearest, Cond.code yX4_nearest cX4_nearest 13 (some .long)]
def wsX7_note_r4 : List Cond := [Cond.methodLink RX4 40 yX4_lengthOf, Cond.static yX4_lengthOf, Cond.code yX4_lengthOf cX4_lengthOf 2 (some .int), Cond.methodLink RX4 54 yJ13_numberOfLeadingZeros_95d88, Cond.static yJ13_numberOfLeadingZeros_95d88, Cond.initialized RJ13, Cond.code yJ13_numberOfLeadingZeros_95d88 cJ13_numberOfLeadingZeros_95d88 3 (some .int), Cond.methodLink RJ13 308 yJ6_numberOfLeadingZeros_0f7a4, Cond.static yJ6_numberOfLeadingZeros_0f7a4, Cond.initialized RJ6, Cond.code yJ6_numberOfLeadingZeros_0f7a4 cJ6_numberOfLeadingZeros_0f7a4 2 (some .int), Cond.constant RJ6 264 (65536), Cond.methodLink RX4 77 yX4_rounded, Cond.static yX4_rounded, Cond.code yX4_rounded cX4_rounded 10 (some .long), Cond.methodLink RX7 80 yX7_done, Cond.instanceMethod yX7_done, Cond.selects RX7 yX7_done yX7_done, Cond.code yX7_done cX7_done 2 (some .int)]
def wsX7_note : List Cond := .code yX7_note cX7_note 8 (some .int) :: ((wsX7_note_r1 ++ (wsX7_note_r2 ++ (wsX7_note_r3 ++ wsX7_note_r4))) ++ wsX50 ++ wsX10 ++ wsX70)
def wsX7_recall_r1 : List Cond := [Cond.fieldLink RX7 72 "OrreryDials$Dial" "fine" "Z", Cond.fieldLink RX7 140 "OrreryDials$Row" "places" "[J", Cond.fieldLink RX7 90 "OrreryDials$Dial" "rim" "J", Cond.fieldLink RX7 87 "OrreryDials$Dial" "place" "J", Cond.methodLink RX7 129 yX7_rowAt, Cond.instanceMethod yX7_rowAt, Cond.selects RX7 yX7_rowAt yX7_rowAt, Cond.initialized RX7, Cond.code yX7_rowAt cX7_rowAt 3 (some (.object "OrreryDials$Row")), Cond.fieldLink RX7 36 "OrreryDials" "rows" "[LOrreryDials$Row;", Cond.methodLink RX7 68 yX7_dialAt, Cond.instanceMethod yX7_dialAt, Cond.selects RX7 yX7_dialAt yX7_dialAt, Cond.code yX7_dialAt cX7_dialAt 2 (some (.object "OrreryDials$Dial")), Cond.fieldLink RX7 15 "OrreryDials" "dialCount" "I", Cond.fieldLink RX7 11 "OrreryDials" "dials" "[LOrreryDials$Dial;", Cond.methodLink RX7 137 yX5_failureAt, Cond.instanceMethod yX5_failureAt, Cond.selects RX5 yX5_failureAt yX5_failureAt, Cond.initialized RX5, Cond.code yX5_failureAt cX5_failureAt 2 (some .int), Cond.fieldLink RX5 15 "OrreryDials$Row" "size" "I", Cond.methodLink RX5 19 yX5_isMissing, Cond.instanceMethod yX5_isMissing]
def wsX7_recall_r2 : List Cond := [Cond.selects RX5 yX5_isMissing yX5_isMissing, Cond.code yX5_isMissing cX5_isMissing 1 (some .boolean), Cond.methodLink RX7 84 yX7_failWith, Cond.instanceMethod yX7_failWith, Cond.selects RX7 yX7_failWith yX7_failWith, Cond.code yX7_failWith cX7_failWith 3 (some .int), Cond.fieldLink RX7 44 "OrreryDials" "latestFailure" "I", Cond.fieldLink RX7 47 "OrreryDials" "failureCounts" "[I", Cond.methodLink RX7 144 yX4_ofReal, Cond.static yX4_ofReal, Cond.initialized RX4, Cond.code yX4_ofReal cX4_ofReal 4 (some .long), Cond.methodLink RX4 64 yX4_isFit, Cond.static yX4_isFit, Cond.code yX4_isFit cX4_isFit 3 (some .boolean), Cond.methodLink RX4 7 yX4_sizeOf, Cond.static yX4_sizeOf, Cond.code yX4_sizeOf cX4_sizeOf 3 (some .long), Cond.constantLong RX4 68 (9223372036854775807), Cond.constantLong RX4 82 (2147483647), Cond.methodLink RX4 13 yX4_endless, Cond.static yX4_endless, Cond.code yX4_endless cX4_endless 1 (some .long), Cond.constantLong RX4 86 (9218868437227405312)]
def wsX7_recall_r3 : List Cond := [Cond.constantLong RX4 88 (2139095040), Cond.methodLink RX4 36 yX4_signed, Cond.static yX4_signed, Cond.code yX4_signed cX4_signed 6 (some .long), Cond.constantLong RX4 19 (-9223372036854775808), Cond.constantLong RX4 84 (-2147483648), Cond.methodLink RX4 21 yX4_mantissa, Cond.static yX4_mantissa, Cond.code yX4_mantissa cX4_mantissa 7 (some .long), Cond.methodLink RX4 74 yX4_width, Cond.static yX4_width, Cond.code yX4_width cX4_width 1 (some .int), Cond.methodLink RX4 24 yX4_exponent, Cond.static yX4_exponent, Cond.code yX4_exponent cX4_exponent 4 (some .int), Cond.methodLink RX4 57 Lib.Math.max.name, Cond.static Lib.Math.max.name, Cond.initialized "java/lang/Math", Cond.code Lib.Math.max.name Lib.Math.max.code 2 (some .int), Cond.methodLink RX4 70 yX4_leastExponent, Cond.static yX4_leastExponent, Cond.code yX4_leastExponent cX4_leastExponent 1 (some .int), Cond.methodLink RX4 32 yX4_nearest, Cond.static yX4_nearest]
def wsX7_recall_r4 : List Cond := [Cond.code yX4_nearest cX4_nearest 13 (some .long), Cond.methodLink RX4 40 yX4_lengthOf, Cond.static yX4_lengthOf, Cond.code yX4_lengthOf cX4_lengthOf 2 (some .int), Cond.methodLink RX4 54 yJ13_numberOfLeadingZeros_95d88, Cond.static yJ13_numberOfLeadingZeros_95d88, Cond.initialized RJ13, Cond.code yJ13_numberOfLeadingZeros_95d88 cJ13_numberOfLeadingZeros_95d88 3 (some .int), Cond.methodLink RJ13 308 yJ6_numberOfLeadingZeros_0f7a4, Cond.static yJ6_numberOfLeadingZeros_0f7a4, Cond.initialized RJ6, Cond.code yJ6_numberOfLeadingZeros_0f7a4 cJ6_numberOfLeadingZeros_0f7a4 2 (some .int), Cond.constant RJ6 264 (65536), Cond.methodLink RX4 77 yX4_rounded, Cond.static yX4_rounded, Cond.code yX4_rounded cX4_rounded 10 (some .long), Cond.methodLink RX7 58 yX4_isFit, Cond.methodLink RX7 148 yX4_leftOver, Cond.static yX4_leftOver, Cond.code yX4_leftOver cX4_leftOver 11 (some .long), Cond.methodLink RX4 61 Lib.Math.min.name, Cond.static Lib.Math.min.name, Cond.code Lib.Math.min.name Lib.Math.min.code 2 (some .int), Cond.methodLink RX7 80 yX7_done]
def wsX7_recall_r5 : List Cond := [Cond.instanceMethod yX7_done, Cond.selects RX7 yX7_done yX7_done, Cond.code yX7_done cX7_done 2 (some .int)]
def wsX7_recall : List Cond := .code yX7_recall cX7_recall 10 (some .int) :: ((wsX7_recall_r1 ++ (wsX7_recall_r2 ++ (wsX7_recall_r3 ++ (wsX7_recall_r4 ++ wsX7_recall_r5)))) ++ wsX10 ++ wsX50 ++ wsX70)
def wsX7_sift_r1 : List Cond := [Cond.fieldLink RX7 156 "OrreryDials$Row" "size" "I", Cond.fieldLink RX7 140 "OrreryDials$Row" "places" "[J", Cond.fieldLink RX7 40 "OrreryDials" "seenBits" "J", Cond.methodLink RX7 129 yX7_rowAt, Cond.instanceMethod yX7_rowAt, Cond.selects RX7 yX7_rowAt yX7_rowAt, Cond.initialized RX7, Cond.code yX7_rowAt cX7_rowAt 3 (some (.object "OrreryDials$Row")), Cond.fieldLink RX7 36 "OrreryDials" "rows" "[LOrreryDials$Row;", Cond.methodLink RX7 52 yX4_told, Cond.static yX4_told, Cond.initialized RX4, Cond.code yX4_told cX4_told 3 (some .long), Cond.methodLink RX7 58 yX4_isFit, Cond.static yX4_isFit, Cond.code yX4_isFit cX4_isFit 3 (some .boolean), Cond.methodLink RX4 7 yX4_sizeOf, Cond.static yX4_sizeOf, Cond.code yX4_sizeOf cX4_sizeOf 3 (some .long), Cond.constantLong RX4 68 (9223372036854775807), Cond.constantLong RX4 82 (2147483647), Cond.methodLink RX4 13 yX4_endless, Cond.static yX4_endless, Cond.code yX4_endless cX4_endless 1 (some .long)]
def wsX7_sift_r2 : List Cond := [Cond.constantLong RX4 86 (9218868437227405312), Cond.constantLong RX4 88 (2139095040), Cond.methodLink RX7 152 yX5_isMissing, Cond.instanceMethod yX5_isMissing, Cond.selects RX5 yX5_isMissing yX5_isMissing, Cond.initialized RX5, Cond.code yX5_isMissing cX5_isMissing 1 (some .boolean), Cond.fieldLink RX5 15 "OrreryDials$Row" "size" "I", Cond.methodLink RX7 84 yX7_failWith, Cond.instanceMethod yX7_failWith, Cond.selects RX7 yX7_failWith yX7_failWith, Cond.code yX7_failWith cX7_failWith 3 (some .int), Cond.fieldLink RX7 44 "OrreryDials" "latestFailure" "I", Cond.fieldLink RX7 47 "OrreryDials" "failureCounts" "[I", Cond.methodLink RX7 62 yX4_isZero, Cond.static yX4_isZero, Cond.code yX4_isZero cX4_isZero 3 (some .boolean), Cond.methodLink RX7 148 yX4_leftOver, Cond.static yX4_leftOver, Cond.code yX4_leftOver cX4_leftOver 11 (some .long), Cond.methodLink RX4 57 Lib.Math.max.name, Cond.static Lib.Math.max.name, Cond.initialized "java/lang/Math", Cond.code Lib.Math.max.name Lib.Math.max.code 2 (some .int)]
def wsX7_sift_r3 : List Cond := [Cond.methodLink RX4 61 Lib.Math.min.name, Cond.static Lib.Math.min.name, Cond.code Lib.Math.min.name Lib.Math.min.code 2 (some .int), Cond.methodLink RX4 21 yX4_mantissa, Cond.static yX4_mantissa, Cond.code yX4_mantissa cX4_mantissa 7 (some .long), Cond.methodLink RX4 74 yX4_width, Cond.static yX4_width, Cond.code yX4_width cX4_width 1 (some .int), Cond.methodLink RX4 54 yJ13_numberOfLeadingZeros_95d88, Cond.static yJ13_numberOfLeadingZeros_95d88, Cond.initialized RJ13, Cond.code yJ13_numberOfLeadingZeros_95d88 cJ13_numberOfLeadingZeros_95d88 3 (some .int), Cond.methodLink RJ13 308 yJ6_numberOfLeadingZeros_0f7a4, Cond.static yJ6_numberOfLeadingZeros_0f7a4, Cond.initialized RJ6, Cond.code yJ6_numberOfLeadingZeros_0f7a4 cJ6_numberOfLeadingZeros_0f7a4 2 (some .int), Cond.constant RJ6 264 (65536), Cond.methodLink RX4 24 yX4_exponent, Cond.static yX4_exponent, Cond.code yX4_exponent cX4_exponent 4 (some .int), Cond.methodLink RX4 70 yX4_leastExponent, Cond.static yX4_leastExponent, Cond.code yX4_leastExponent cX4_leastExponent 1 (some .int)]
def wsX7_sift_r4 : List Cond := [Cond.methodLink RX4 32 yX4_nearest, Cond.static yX4_nearest, Cond.code yX4_nearest cX4_nearest 13 (some .long), Cond.methodLink RX4 36 yX4_signed, Cond.static yX4_signed, Cond.code yX4_signed cX4_signed 6 (some .long), Cond.constantLong RX4 19 (-9223372036854775808), Cond.constantLong RX4 84 (-2147483648), Cond.methodLink RX4 40 yX4_lengthOf, Cond.static yX4_lengthOf, Cond.code yX4_lengthOf cX4_lengthOf 2 (some .int), Cond.methodLink RX4 77 yX4_rounded, Cond.static yX4_rounded, Cond.code yX4_rounded cX4_rounded 10 (some .long), Cond.methodLink RX7 80 yX7_done, Cond.instanceMethod yX7_done, Cond.selects RX7 yX7_done yX7_done, Cond.code yX7_done cX7_done 2 (some .int)]
def wsX7_sift : List Cond := .code yX7_sift cX7_sift 10 (some .int) :: ((wsX7_sift_r1 ++ (wsX7_sift_r2 ++ (wsX7_sift_r3 ++ wsX7_sift_r4))) ++ wsX50 ++ wsX70)
def wsX7_isKind : List Cond := .code yX7_isKind cX7_isKind 1 (some .boolean) :: ([])
def wsX7_isReal : List Cond := .code yX7_isReal cX7_isReal 1 (some .boolean) :: ([])
def wsX7_castReal_r1 : List Cond := [Cond.constantLong RX7 190 (-2147483648), Cond.constantLong RX7 192 (2147483647), Cond.methodLink RX7 194 Lib.MathLoose.min_long.x, Cond.static Lib.MathLoose.min_long.x, Cond.initialized "java/lang/Math", Cond.code Lib.MathLoose.min_long.x Lib.MathLoose.min_long.code 4 (some .long), Cond.methodLink RX7 200 Lib.MathLoose.max_long.x, Cond.static Lib.MathLoose.max_long.x, Cond.code Lib.MathLoose.max_long.x Lib.MathLoose.max_long.code 4 (some .long), Cond.methodLink RX7 162 yX7_isReal, Cond.static yX7_isReal, Cond.initialized RX7, Cond.code yX7_isReal cX7_isReal 1 (some .boolean), Cond.methodLink RX7 144 yX4_ofReal, Cond.static yX4_ofReal, Cond.initialized RX4, Cond.code yX4_ofReal cX4_ofReal 4 (some .long), Cond.methodLink RX4 64 yX4_isFit, Cond.static yX4_isFit, Cond.code yX4_isFit cX4_isFit 3 (some .boolean), Cond.methodLink RX4 7 yX4_sizeOf, Cond.static yX4_sizeOf, Cond.code yX4_sizeOf cX4_sizeOf 3 (some .long), Cond.constantLong RX4 68 (9223372036854775807)]
def wsX7_castReal_r2 : List Cond := [Cond.constantLong RX4 82 (2147483647), Cond.methodLink RX4 13 yX4_endless, Cond.static yX4_endless, Cond.code yX4_endless cX4_endless 1 (some .long), Cond.constantLong RX4 86 (9218868437227405312), Cond.constantLong RX4 88 (2139095040), Cond.methodLink RX4 36 yX4_signed, Cond.static yX4_signed, Cond.code yX4_signed cX4_signed 6 (some .long), Cond.constantLong RX4 19 (-9223372036854775808), Cond.constantLong RX4 84 (-2147483648), Cond.methodLink RX4 21 yX4_mantissa, Cond.static yX4_mantissa, Cond.code yX4_mantissa cX4_mantissa 7 (some .long), Cond.methodLink RX4 74 yX4_width, Cond.static yX4_width, Cond.code yX4_width cX4_width 1 (some .int), Cond.methodLink RX4 24 yX4_exponent, Cond.static yX4_exponent, Cond.code yX4_exponent cX4_exponent 4 (some .int), Cond.methodLink RX4 57 Lib.Math.max.name, Cond.static Lib.Math.max.name, Cond.code Lib.Math.max.name Lib.Math.max.code 2 (some .int), Cond.methodLink RX4 70 yX4_leastExponent]
def wsX7_castReal_r3 : List Cond := [Cond.static yX4_leastExponent, Cond.code yX4_leastExponent cX4_leastExponent 1 (some .int), Cond.methodLink RX4 32 yX4_nearest, Cond.static yX4_nearest, Cond.code yX4_nearest cX4_nearest 13 (some .long), Cond.methodLink RX4 40 yX4_lengthOf, Cond.static yX4_lengthOf, Cond.code yX4_lengthOf cX4_lengthOf 2 (some .int), Cond.methodLink RX4 54 yJ13_numberOfLeadingZeros_95d88, Cond.static yJ13_numberOfLeadingZeros_95d88, Cond.initialized RJ13, Cond.code yJ13_numberOfLeadingZeros_95d88 cJ13_numberOfLeadingZeros_95d88 3 (some .int), Cond.methodLink RJ13 308 yJ6_numberOfLeadingZeros_0f7a4, Cond.static yJ6_numberOfLeadingZeros_0f7a4, Cond.initialized RJ6, Cond.code yJ6_numberOfLeadingZeros_0f7a4 cJ6_numberOfLeadingZeros_0f7a4 2 (some .int), Cond.constant RJ6 264 (65536), Cond.methodLink RX4 77 yX4_rounded, Cond.static yX4_rounded, Cond.code yX4_rounded cX4_rounded 10 (some .long), Cond.methodLink RX7 185 yX4_cutToLong, Cond.static yX4_cutToLong, Cond.code yX4_cutToLong cX4_cutToLong 8 (some .long)]
def wsX7_castReal : List Cond := .code yX7_castReal cX7_castReal 6 (some .long) :: ((wsX7_castReal_r1 ++ (wsX7_castReal_r2 ++ wsX7_castReal_r3)))
def wsX7_castWhole_r1 : List Cond := [Cond.methodLink RX7 162 yX7_isReal, Cond.static yX7_isReal, Cond.initialized RX7, Cond.code yX7_isReal cX7_isReal 1 (some .boolean), Cond.methodLink RX7 203 yX4_ofLong, Cond.static yX4_ofLong, Cond.initialized RX4, Cond.code yX4_ofLong cX4_ofLong 3 (some .long), Cond.methodLink RX4 48 Lib.MathLoose.abs_long.x, Cond.static Lib.MathLoose.abs_long.x, Cond.initialized "java/lang/Math", Cond.code Lib.MathLoose.abs_long.x Lib.MathLoose.abs_long.code 2 (some .long), Cond.methodLink RX4 32 yX4_nearest, Cond.static yX4_nearest, Cond.code yX4_nearest cX4_nearest 13 (some .long), Cond.methodLink RX4 57 Lib.Math.max.name, Cond.static Lib.Math.max.name, Cond.code Lib.Math.max.name Lib.Math.max.code 2 (some .int), Cond.methodLink RX4 36 yX4_signed, Cond.static yX4_signed, Cond.code yX4_signed cX4_signed 6 (some .long), Cond.constantLong RX4 19 (-9223372036854775808), Cond.constantLong RX4 84 (-2147483648), Cond.methodLink RX4 70 yX4_leastExponent]
def wsX7_castWhole_r2 : List Cond := [Cond.static yX4_leastExponent, Cond.code yX4_leastExponent cX4_leastExponent 1 (some .int), Cond.methodLink RX4 40 yX4_lengthOf, Cond.static yX4_lengthOf, Cond.code yX4_lengthOf cX4_lengthOf 2 (some .int), Cond.methodLink RX4 54 yJ13_numberOfLeadingZeros_95d88, Cond.static yJ13_numberOfLeadingZeros_95d88, Cond.initialized RJ13, Cond.code yJ13_numberOfLeadingZeros_95d88 cJ13_numberOfLeadingZeros_95d88 3 (some .int), Cond.methodLink RJ13 308 yJ6_numberOfLeadingZeros_0f7a4, Cond.static yJ6_numberOfLeadingZeros_0f7a4, Cond.initialized RJ6, Cond.code yJ6_numberOfLeadingZeros_0f7a4 cJ6_numberOfLeadingZeros_0f7a4 2 (some .int), Cond.constant RJ6 264 (65536), Cond.methodLink RX4 74 yX4_width, Cond.static yX4_width, Cond.code yX4_width cX4_width 1 (some .int), Cond.methodLink RX4 13 yX4_endless, Cond.static yX4_endless, Cond.code yX4_endless cX4_endless 1 (some .long), Cond.constantLong RX4 86 (9218868437227405312), Cond.constantLong RX4 88 (2139095040), Cond.methodLink RX4 77 yX4_rounded, Cond.static yX4_rounded]
def wsX7_castWhole_r3 : List Cond := [Cond.code yX4_rounded cX4_rounded 10 (some .long)]
def wsX7_castWhole : List Cond := .code yX7_castWhole cX7_castWhole 3 (some .long) :: ((wsX7_castWhole_r1 ++ (wsX7_castWhole_r2 ++ wsX7_castWhole_r3)))
def wsX7_cast_r1 : List Cond := [Cond.fieldLink RX7 40 "OrreryDials" "seenBits" "J", Cond.methodLink RX7 159 yX7_isKind, Cond.static yX7_isKind, Cond.initialized RX7, Cond.code yX7_isKind cX7_isKind 1 (some .boolean), Cond.methodLink RX7 162 yX7_isReal, Cond.static yX7_isReal, Cond.code yX7_isReal cX7_isReal 1 (some .boolean), Cond.methodLink RX7 165 yX4_isNumber, Cond.static yX4_isNumber, Cond.initialized RX4, Cond.code yX4_isNumber cX4_isNumber 3 (some .boolean), Cond.methodLink RX4 7 yX4_sizeOf, Cond.static yX4_sizeOf, Cond.code yX4_sizeOf cX4_sizeOf 3 (some .long), Cond.constantLong RX4 68 (9223372036854775807), Cond.constantLong RX4 82 (2147483647), Cond.methodLink RX4 13 yX4_endless, Cond.static yX4_endless, Cond.code yX4_endless cX4_endless 1 (some .long), Cond.constantLong RX4 86 (9218868437227405312), Cond.constantLong RX4 88 (2139095040), Cond.methodLink RX7 168 yX7_castReal, Cond.static yX7_castReal]
def wsX7_cast_r2 : List Cond := [Cond.code yX7_castReal cX7_castReal 6 (some .long), Cond.constantLong RX7 190 (-2147483648), Cond.constantLong RX7 192 (2147483647), Cond.methodLink RX7 194 Lib.MathLoose.min_long.x, Cond.static Lib.MathLoose.min_long.x, Cond.initialized "java/lang/Math", Cond.code Lib.MathLoose.min_long.x Lib.MathLoose.min_long.code 4 (some .long), Cond.methodLink RX7 200 Lib.MathLoose.max_long.x, Cond.static Lib.MathLoose.max_long.x, Cond.code Lib.MathLoose.max_long.x Lib.MathLoose.max_long.code 4 (some .long), Cond.methodLink RX7 144 yX4_ofReal, Cond.static yX4_ofReal, Cond.code yX4_ofReal cX4_ofReal 4 (some .long), Cond.methodLink RX4 64 yX4_isFit, Cond.static yX4_isFit, Cond.code yX4_isFit cX4_isFit 3 (some .boolean), Cond.methodLink RX4 36 yX4_signed, Cond.static yX4_signed, Cond.code yX4_signed cX4_signed 6 (some .long), Cond.constantLong RX4 19 (-9223372036854775808), Cond.constantLong RX4 84 (-2147483648), Cond.methodLink RX4 21 yX4_mantissa, Cond.static yX4_mantissa, Cond.code yX4_mantissa cX4_mantissa 7 (some .long)]
def wsX7_cast_r3 : List Cond := [Cond.methodLink RX4 74 yX4_width, Cond.static yX4_width, Cond.code yX4_width cX4_width 1 (some .int), Cond.methodLink RX4 24 yX4_exponent, Cond.static yX4_exponent, Cond.code yX4_exponent cX4_exponent 4 (some .int), Cond.methodLink RX4 57 Lib.Math.max.name, Cond.static Lib.Math.max.name, Cond.code Lib.Math.max.name Lib.Math.max.code 2 (some .int), Cond.methodLink RX4 70 yX4_leastExponent, Cond.static yX4_leastExponent, Cond.code yX4_leastExponent cX4_leastExponent 1 (some .int), Cond.methodLink RX4 32 yX4_nearest, Cond.static yX4_nearest, Cond.code yX4_nearest cX4_nearest 13 (some .long), Cond.methodLink RX4 40 yX4_lengthOf, Cond.static yX4_lengthOf, Cond.code yX4_lengthOf cX4_lengthOf 2 (some .int), Cond.methodLink RX4 54 yJ13_numberOfLeadingZeros_95d88, Cond.static yJ13_numberOfLeadingZeros_95d88, Cond.initialized RJ13, Cond.code yJ13_numberOfLeadingZeros_95d88 cJ13_numberOfLeadingZeros_95d88 3 (some .int), Cond.methodLink RJ13 308 yJ6_numberOfLeadingZeros_0f7a4, Cond.static yJ6_numberOfLeadingZeros_0f7a4]
def wsX7_cast_r4 : List Cond := [Cond.initialized RJ6, Cond.code yJ6_numberOfLeadingZeros_0f7a4 cJ6_numberOfLeadingZeros_0f7a4 2 (some .int), Cond.constant RJ6 264 (65536), Cond.methodLink RX4 77 yX4_rounded, Cond.static yX4_rounded, Cond.code yX4_rounded cX4_rounded 10 (some .long), Cond.methodLink RX7 185 yX4_cutToLong, Cond.static yX4_cutToLong, Cond.code yX4_cutToLong cX4_cutToLong 8 (some .long), Cond.methodLink RX7 172 yX7_castWhole, Cond.static yX7_castWhole, Cond.code yX7_castWhole cX7_castWhole 3 (some .long), Cond.methodLink RX7 203 yX4_ofLong, Cond.static yX4_ofLong, Cond.code yX4_ofLong cX4_ofLong 3 (some .long), Cond.methodLink RX4 48 Lib.MathLoose.abs_long.x, Cond.static Lib.MathLoose.abs_long.x, Cond.code Lib.MathLoose.abs_long.x Lib.MathLoose.abs_long.code 2 (some .long)]
def wsX7_cast : List Cond := .code yX7_cast cX7_cast 7 (some .int) :: ((wsX7_cast_r1 ++ (wsX7_cast_r2 ++ (wsX7_cast_r3 ++ wsX7_cast_r4))) ++ wsX70)
def wsX7_left_r1 : List Cond := [Cond.fieldLink RX7 40 "OrreryDials" "seenBits" "J", Cond.methodLink RX7 52 yX4_told, Cond.static yX4_told, Cond.initialized RX4, Cond.code yX4_told cX4_told 3 (some .long), Cond.methodLink RX7 58 yX4_isFit, Cond.static yX4_isFit, Cond.code yX4_isFit cX4_isFit 3 (some .boolean), Cond.methodLink RX4 7 yX4_sizeOf, Cond.static yX4_sizeOf, Cond.code yX4_sizeOf cX4_sizeOf 3 (some .long), Cond.constantLong RX4 68 (9223372036854775807), Cond.constantLong RX4 82 (2147483647), Cond.methodLink RX4 13 yX4_endless, Cond.static yX4_endless, Cond.code yX4_endless cX4_endless 1 (some .long), Cond.constantLong RX4 86 (9218868437227405312), Cond.constantLong RX4 88 (2139095040), Cond.methodLink RX7 62 yX4_isZero, Cond.static yX4_isZero, Cond.code yX4_isZero cX4_isZero 3 (some .boolean), Cond.methodLink RX7 165 yX4_isNumber, Cond.static yX4_isNumber, Cond.code yX4_isNumber cX4_isNumber 3 (some .boolean)]
def wsX7_left_r2 : List Cond := [Cond.methodLink RX7 148 yX4_leftOver, Cond.static yX4_leftOver, Cond.code yX4_leftOver cX4_leftOver 11 (some .long), Cond.methodLink RX4 57 Lib.Math.max.name, Cond.static Lib.Math.max.name, Cond.initialized "java/lang/Math", Cond.code Lib.Math.max.name Lib.Math.max.code 2 (some .int), Cond.methodLink RX4 61 Lib.Math.min.name, Cond.static Lib.Math.min.name, Cond.code Lib.Math.min.name Lib.Math.min.code 2 (some .int), Cond.methodLink RX4 21 yX4_mantissa, Cond.static yX4_mantissa, Cond.code yX4_mantissa cX4_mantissa 7 (some .long), Cond.methodLink RX4 74 yX4_width, Cond.static yX4_width, Cond.code yX4_width cX4_width 1 (some .int), Cond.methodLink RX4 54 yJ13_numberOfLeadingZeros_95d88, Cond.static yJ13_numberOfLeadingZeros_95d88, Cond.initialized RJ13, Cond.code yJ13_numberOfLeadingZeros_95d88 cJ13_numberOfLeadingZeros_95d88 3 (some .int), Cond.methodLink RJ13 308 yJ6_numberOfLeadingZeros_0f7a4, Cond.static yJ6_numberOfLeadingZeros_0f7a4, Cond.initialized RJ6, Cond.code yJ6_numberOfLeadingZeros_0f7a4 cJ6_numberOfLeadingZeros_0f7a4 2 (some .int)]
def wsX7_left_r3 : List Cond := [Cond.constant RJ6 264 (65536), Cond.methodLink RX4 24 yX4_exponent, Cond.static yX4_exponent, Cond.code yX4_exponent cX4_exponent 4 (some .int), Cond.methodLink RX4 70 yX4_leastExponent, Cond.static yX4_leastExponent, Cond.code yX4_leastExponent cX4_leastExponent 1 (some .int), Cond.methodLink RX4 32 yX4_nearest, Cond.static yX4_nearest, Cond.code yX4_nearest cX4_nearest 13 (some .long), Cond.methodLink RX4 36 yX4_signed, Cond.static yX4_signed, Cond.code yX4_signed cX4_signed 6 (some .long), Cond.constantLong RX4 19 (-9223372036854775808), Cond.constantLong RX4 84 (-2147483648), Cond.methodLink RX4 40 yX4_lengthOf, Cond.static yX4_lengthOf, Cond.code yX4_lengthOf cX4_lengthOf 2 (some .int), Cond.methodLink RX4 77 yX4_rounded, Cond.static yX4_rounded, Cond.code yX4_rounded cX4_rounded 10 (some .long)]
def wsX7_left : List Cond := .code yX7_left cX7_left 10 (some .int) :: ((wsX7_left_r1 ++ (wsX7_left_r2 ++ wsX7_left_r3)) ++ wsX70)
def wsX7_failed : List Cond := .code yX7_failed cX7_failed 1 (some .int) :: ([.fieldLink RX7 44 "OrreryDials" "latestFailure" "I"] ++ wsX70)
def wsX7_about : List Cond := .code yX7_about cX7_about 3 (some .int) :: ([.fieldLink RX7 15 "OrreryDials" "dialCount" "I", .fieldLink RX7 25 "OrreryDials" "driveCount" "I", .fieldLink RX7 47 "OrreryDials" "failureCounts" "[I"] ++ wsX70)
def wsX8_init_r1 : List Cond := [Cond.methodLink RX8 1 objectInit, Cond.instanceMethod objectInit, Cond.code objectInit ⟨#[0xb1]⟩ 1 none, Cond.arrayClass .boolean, Cond.fieldLink RX8 7 "OrreryDialsModel" "isFine" "[Z", Cond.arrayClass .float, Cond.fieldLink RX8 13 "OrreryDialsModel" "rimF" "[F", Cond.fieldLink RX8 17 "OrreryDialsModel" "placeF" "[F", Cond.arrayClass .double, Cond.fieldLink RX8 20 "OrreryDialsModel" "rimD" "[D", Cond.fieldLink RX8 24 "OrreryDialsModel" "placeD" "[D", Cond.arrayClass .long, Cond.fieldLink RX8 27 "OrreryDialsModel" "lapsOf" "[J", Cond.arrayClass .int, Cond.fieldLink RX8 31 "OrreryDialsModel" "sortOf" "[I", Cond.fieldLink RX8 35 "OrreryDialsModel" "pullOf" "[D", Cond.fieldLink RX8 38 "OrreryDialsModel" "gearOf" "[I", Cond.fieldLink RX8 41 "OrreryDialsModel" "pulled" "[I", Cond.fieldLink RX8 44 "OrreryDialsModel" "slots" "[I", Cond.fieldLink RX8 47 "OrreryDialsModel" "shafts" "[I", Cond.fieldLink RX8 50 "OrreryDialsModel" "many" "[I", Cond.fieldLink RX8 53 "OrreryDialsModel" "floats" "[F", Cond.fieldLink RX8 56 "OrreryDialsModel" "doubles" "[D", Cond.fieldLink RX8 59 "OrreryDialsModel" "counts" "[I"]
def wsX8_init_r2 : List Cond := [Cond.fieldLink RX8 62 "OrreryDialsModel" "dials" "I"]
def wsX8_init : List Cond := .code yX8_init cX8_init 1 none :: ((wsX8_init_r1 ++ wsX8_init_r2) ++ wsX80)
def wsX8_in : List Cond := .code yX8_in cX8_in 6 (some .boolean) :: ([])
def wsX8_done : List Cond := .code yX8_done cX8_done 2 (some .int) :: ([.fieldLink RX8 66 "OrreryDialsModel" "failed" "I"] ++ wsX80)
def wsX8_fails : List Cond := .code yX8_fails cX8_fails 2 (some .int) :: ([.fieldLink RX8 66 "OrreryDialsModel" "failed" "I", .fieldLink RX8 59 "OrreryDialsModel" "counts" "[I"] ++ wsX80)
def wsX8_isFitFloat : List Cond := .code yX8_isFitFloat cX8_isFitFloat 2 (some .boolean) :: ([.constant RX8 69 (2139095040)])
def wsX8_isFitDouble : List Cond := .code yX8_isFitDouble cX8_isFitDouble 2 (some .boolean) :: ([.constantLong RX8 70 (9218868437227405312)])
def wsX8_isFit : List Cond := .code yX8_isFit cX8_isFit 3 (some .boolean) :: ([.methodLink RX8 72 yX8_isFitDouble, .static yX8_isFitDouble, .initialized RX8, .code yX8_isFitDouble cX8_isFitDouble 2 (some .boolean), .constantLong RX8 70 (9218868437227405312), .methodLink RX8 76 yX8_isFitFloat, .static yX8_isFitFloat, .code yX8_isFitFloat cX8_isFitFloat 2 (some .boolean), .constant RX8 69 (2139095040)])
def wsX8_isNone : List Cond := .code yX8_isNone cX8_isNone 3 (some .boolean) :: ([.constant RX8 79 (2147483647), .constant RX8 69 (2139095040), .constantLong RX8 80 (9223372036854775807), .constantLong RX8 70 (9218868437227405312)])
def wsX8_isEndless : List Cond := .code yX8_isEndless cX8_isEndless 2 (some .boolean) :: ([.constantDouble RX8 82 (9218868437227405311), .constantDouble RX8 84 (18442240474082181119)])
def wsX8_isEndlessFloat : List Cond := .code yX8_isEndlessFloat cX8_isEndlessFloat 1 (some .boolean) :: ([.constantFloat RX8 86 (2139095039), .constantFloat RX8 87 (4286578687)])
def wsX8_floatOf : List Cond := .code yX8_floatOf cX8_floatOf 2 (some .float) :: ([.methodLink RX8 88 ⟨"java/lang/Float", "intBitsToFloat", "(I)F"⟩, .native ⟨"java/lang/Float", "intBitsToFloat", "(I)F"⟩, .static ⟨"java/lang/Float", "intBitsToFloat", "(I)F"⟩, .initialized "java/lang/Float"])
def wsX8_doubleOf : List Cond := .code yX8_doubleOf cX8_doubleOf 2 (some .double) :: ([.methodLink RX8 94 ⟨"java/lang/Double", "longBitsToDouble", "(J)D"⟩, .native ⟨"java/lang/Double", "longBitsToDouble", "(J)D"⟩, .static ⟨"java/lang/Double", "longBitsToDouble", "(J)D"⟩, .initialized "java/lang/Double"])
def wsX8_isDial : List Cond := .code yX8_isDial cX8_isDial 2 (some .boolean) :: ([.fieldLink RX8 62 "OrreryDialsModel" "dials" "I", .methodLink RX8 100 yX8_in, .static yX8_in, .initialized RX8, .code yX8_in cX8_in 6 (some .boolean)] ++ wsX80)
def wsX8_dial_r1 : List Cond := [Cond.fieldLink RX8 62 "OrreryDialsModel" "dials" "I", Cond.fieldLink RX8 7 "OrreryDialsModel" "isFine" "[Z", Cond.fieldLink RX8 13 "OrreryDialsModel" "rimF" "[F", Cond.fieldLink RX8 20 "OrreryDialsModel" "rimD" "[D", Cond.fieldLink RX8 17 "OrreryDialsModel" "placeF" "[F", Cond.fieldLink RX8 24 "OrreryDialsModel" "placeD" "[D", Cond.fieldLink RX8 27 "OrreryDialsModel" "lapsOf" "[J", Cond.methodLink RX8 104 yX8_isFit, Cond.static yX8_isFit, Cond.initialized RX8, Cond.code yX8_isFit cX8_isFit 3 (some .boolean), Cond.methodLink RX8 72 yX8_isFitDouble, Cond.static yX8_isFitDouble, Cond.code yX8_isFitDouble cX8_isFitDouble 2 (some .boolean), Cond.constantLong RX8 70 (9218868437227405312), Cond.methodLink RX8 76 yX8_isFitFloat, Cond.static yX8_isFitFloat, Cond.code yX8_isFitFloat cX8_isFitFloat 2 (some .boolean), Cond.constant RX8 69 (2139095040), Cond.methodLink RX8 108 yX8_doubleOf, Cond.static yX8_doubleOf, Cond.code yX8_doubleOf cX8_doubleOf 2 (some .double), Cond.methodLink RX8 94 ⟨"java/lang/Double", "longBitsToDouble", "(J)D"⟩, Cond.native ⟨"java/lang/Double", "longBitsToDouble", "(J)D"⟩]
def wsX8_dial_r2 : List Cond := [Cond.static ⟨"java/lang/Double", "longBitsToDouble", "(J)D"⟩, Cond.initialized "java/lang/Double", Cond.methodLink RX8 111 yX8_floatOf, Cond.static yX8_floatOf, Cond.code yX8_floatOf cX8_floatOf 2 (some .float), Cond.methodLink RX8 88 ⟨"java/lang/Float", "intBitsToFloat", "(I)F"⟩, Cond.native ⟨"java/lang/Float", "intBitsToFloat", "(I)F"⟩, Cond.static ⟨"java/lang/Float", "intBitsToFloat", "(I)F"⟩, Cond.initialized "java/lang/Float"]
def wsX8_dial : List Cond := .code yX8_dial cX8_dial 4 (some .int) :: ((wsX8_dial_r1 ++ wsX8_dial_r2) ++ wsX80)
def wsX8_goesFloat : List Cond := .code yX8_goesFloat cX8_goesFloat 4 (some .boolean) :: ([.fieldLink RX8 17 "OrreryDialsModel" "placeF" "[F", .fieldLink RX8 27 "OrreryDialsModel" "lapsOf" "[J", .fieldLink RX8 13 "OrreryDialsModel" "rimF" "[F", .methodLink RX8 115 yX8_isEndlessFloat, .static yX8_isEndlessFloat, .initialized RX8, .code yX8_isEndlessFloat cX8_isEndlessFloat 1 (some .boolean), .constantFloat RX8 86 (2139095039), .constantFloat RX8 87 (4286578687)] ++ wsX80)
def wsX8_goesDouble : List Cond := .code yX8_goesDouble cX8_goesDouble 6 (some .boolean) :: ([.fieldLink RX8 24 "OrreryDialsModel" "placeD" "[D", .fieldLink RX8 27 "OrreryDialsModel" "lapsOf" "[J", .fieldLink RX8 20 "OrreryDialsModel" "rimD" "[D", .methodLink RX8 119 yX8_isEndless, .static yX8_isEndless, .initialized RX8, .code yX8_isEndless cX8_isEndless 2 (some .boolean), .constantDouble RX8 82 (9218868437227405311), .constantDouble RX8 84 (18442240474082181119)] ++ wsX80)
def wsX8_goes_r1 : List Cond := [Cond.fieldLink RX8 7 "OrreryDialsModel" "isFine" "[Z", Cond.methodLink RX8 108 yX8_doubleOf, Cond.static yX8_doubleOf, Cond.initialized RX8, Cond.code yX8_doubleOf cX8_doubleOf 2 (some .double), Cond.methodLink RX8 94 ⟨"java/lang/Double", "longBitsToDouble", "(J)D"⟩, Cond.native ⟨"java/lang/Double", "longBitsToDouble", "(J)D"⟩, Cond.static ⟨"java/lang/Double", "longBitsToDouble", "(J)D"⟩, Cond.initialized "java/lang/Double", Cond.methodLink RX8 123 yX8_goesDouble, Cond.instanceMethod yX8_goesDouble, Cond.selects RX8 yX8_goesDouble yX8_goesDouble, Cond.code yX8_goesDouble cX8_goesDouble 6 (some .boolean), Cond.fieldLink RX8 24 "OrreryDialsModel" "placeD" "[D", Cond.fieldLink RX8 27 "OrreryDialsModel" "lapsOf" "[J", Cond.fieldLink RX8 20 "OrreryDialsModel" "rimD" "[D", Cond.methodLink RX8 119 yX8_isEndless, Cond.static yX8_isEndless, Cond.code yX8_isEndless cX8_isEndless 2 (some .boolean), Cond.constantDouble RX8 82 (9218868437227405311), Cond.constantDouble RX8 84 (18442240474082181119), Cond.methodLink RX8 111 yX8_floatOf, Cond.static yX8_floatOf, Cond.code yX8_floatOf cX8_floatOf 2 (some .float)]
def wsX8_goes_r2 : List Cond := [Cond.methodLink RX8 88 ⟨"java/lang/Float", "intBitsToFloat", "(I)F"⟩, Cond.native ⟨"java/lang/Float", "intBitsToFloat", "(I)F"⟩, Cond.static ⟨"java/lang/Float", "intBitsToFloat", "(I)F"⟩, Cond.initialized "java/lang/Float", Cond.methodLink RX8 127 yX8_goesFloat, Cond.instanceMethod yX8_goesFloat, Cond.selects RX8 yX8_goesFloat yX8_goesFloat, Cond.code yX8_goesFloat cX8_goesFloat 4 (some .boolean), Cond.fieldLink RX8 17 "OrreryDialsModel" "placeF" "[F", Cond.fieldLink RX8 13 "OrreryDialsModel" "rimF" "[F", Cond.methodLink RX8 115 yX8_isEndlessFloat, Cond.static yX8_isEndlessFloat, Cond.code yX8_isEndlessFloat cX8_isEndlessFloat 1 (some .boolean), Cond.constantFloat RX8 86 (2139095039), Cond.constantFloat RX8 87 (4286578687)]
def wsX8_goes : List Cond := .code yX8_goes cX8_goes 4 (some .boolean) :: ((wsX8_goes_r1 ++ wsX8_goes_r2) ++ wsX80)
def wsX8_turn_r1 : List Cond := [Cond.fieldLink RX8 7 "OrreryDialsModel" "isFine" "[Z", Cond.methodLink RX8 131 yX8_isDial, Cond.instanceMethod yX8_isDial, Cond.selects RX8 yX8_isDial yX8_isDial, Cond.initialized RX8, Cond.code yX8_isDial cX8_isDial 2 (some .boolean), Cond.fieldLink RX8 62 "OrreryDialsModel" "dials" "I", Cond.methodLink RX8 100 yX8_in, Cond.static yX8_in, Cond.code yX8_in cX8_in 6 (some .boolean), Cond.methodLink RX8 104 yX8_isFit, Cond.static yX8_isFit, Cond.code yX8_isFit cX8_isFit 3 (some .boolean), Cond.methodLink RX8 72 yX8_isFitDouble, Cond.static yX8_isFitDouble, Cond.code yX8_isFitDouble cX8_isFitDouble 2 (some .boolean), Cond.constantLong RX8 70 (9218868437227405312), Cond.methodLink RX8 76 yX8_isFitFloat, Cond.static yX8_isFitFloat, Cond.code yX8_isFitFloat cX8_isFitFloat 2 (some .boolean), Cond.constant RX8 69 (2139095040), Cond.methodLink RX8 135 yX8_goes, Cond.instanceMethod yX8_goes, Cond.selects RX8 yX8_goes yX8_goes]
def wsX8_turn_r2 : List Cond := [Cond.code yX8_goes cX8_goes 4 (some .boolean), Cond.methodLink RX8 108 yX8_doubleOf, Cond.static yX8_doubleOf, Cond.code yX8_doubleOf cX8_doubleOf 2 (some .double), Cond.methodLink RX8 94 ⟨"java/lang/Double", "longBitsToDouble", "(J)D"⟩, Cond.native ⟨"java/lang/Double", "longBitsToDouble", "(J)D"⟩, Cond.static ⟨"java/lang/Double", "longBitsToDouble", "(J)D"⟩, Cond.initialized "java/lang/Double", Cond.methodLink RX8 123 yX8_goesDouble, Cond.instanceMethod yX8_goesDouble, Cond.selects RX8 yX8_goesDouble yX8_goesDouble, Cond.code yX8_goesDouble cX8_goesDouble 6 (some .boolean), Cond.fieldLink RX8 24 "OrreryDialsModel" "placeD" "[D", Cond.fieldLink RX8 27 "OrreryDialsModel" "lapsOf" "[J", Cond.fieldLink RX8 20 "OrreryDialsModel" "rimD" "[D", Cond.methodLink RX8 119 yX8_isEndless, Cond.static yX8_isEndless, Cond.code yX8_isEndless cX8_isEndless 2 (some .boolean), Cond.constantDouble RX8 82 (9218868437227405311), Cond.constantDouble RX8 84 (18442240474082181119), Cond.methodLink RX8 111 yX8_floatOf, Cond.static yX8_floatOf, Cond.code yX8_floatOf cX8_floatOf 2 (some .float), Cond.methodLink RX8 88 ⟨"java/lang/Float", "intBitsToFloat", "(I)F"⟩]
def wsX8_turn_r3 : List Cond := [Cond.native ⟨"java/lang/Float", "intBitsToFloat", "(I)F"⟩, Cond.static ⟨"java/lang/Float", "intBitsToFloat", "(I)F"⟩, Cond.initialized "java/lang/Float", Cond.methodLink RX8 127 yX8_goesFloat, Cond.instanceMethod yX8_goesFloat, Cond.selects RX8 yX8_goesFloat yX8_goesFloat, Cond.code yX8_goesFloat cX8_goesFloat 4 (some .boolean), Cond.fieldLink RX8 17 "OrreryDialsModel" "placeF" "[F", Cond.fieldLink RX8 13 "OrreryDialsModel" "rimF" "[F", Cond.methodLink RX8 115 yX8_isEndlessFloat, Cond.static yX8_isEndlessFloat, Cond.code yX8_isEndlessFloat cX8_isEndlessFloat 1 (some .boolean), Cond.constantFloat RX8 86 (2139095039), Cond.constantFloat RX8 87 (4286578687), Cond.methodLink RX8 139 yX8_done, Cond.instanceMethod yX8_done, Cond.selects RX8 yX8_done yX8_done, Cond.code yX8_done cX8_done 2 (some .int), Cond.fieldLink RX8 66 "OrreryDialsModel" "failed" "I", Cond.methodLink RX8 143 yX8_fails, Cond.instanceMethod yX8_fails, Cond.selects RX8 yX8_fails yX8_fails, Cond.code yX8_fails cX8_fails 2 (some .int), Cond.fieldLink RX8 59 "OrreryDialsModel" "counts" "[I"]
def wsX8_turn : List Cond := .code yX8_turn cX8_turn 4 (some .int) :: ((wsX8_turn_r1 ++ (wsX8_turn_r2 ++ wsX8_turn_r3)) ++ wsX80)
def wsX8_spin_r1 : List Cond := [Cond.fieldLink RX8 7 "OrreryDialsModel" "isFine" "[Z", Cond.constantLong RX8 146 (40), Cond.fieldLink RX8 66 "OrreryDialsModel" "failed" "I", Cond.methodLink RX8 131 yX8_isDial, Cond.instanceMethod yX8_isDial, Cond.selects RX8 yX8_isDial yX8_isDial, Cond.initialized RX8, Cond.code yX8_isDial cX8_isDial 2 (some .boolean), Cond.fieldLink RX8 62 "OrreryDialsModel" "dials" "I", Cond.methodLink RX8 100 yX8_in, Cond.static yX8_in, Cond.code yX8_in cX8_in 6 (some .boolean), Cond.methodLink RX8 104 yX8_isFit, Cond.static yX8_isFit, Cond.code yX8_isFit cX8_isFit 3 (some .boolean), Cond.methodLink RX8 72 yX8_isFitDouble, Cond.static yX8_isFitDouble, Cond.code yX8_isFitDouble cX8_isFitDouble 2 (some .boolean), Cond.constantLong RX8 70 (9218868437227405312), Cond.methodLink RX8 76 yX8_isFitFloat, Cond.static yX8_isFitFloat, Cond.code yX8_isFitFloat cX8_isFitFloat 2 (some .boolean), Cond.constant RX8 69 (2139095040), Cond.methodLink RX8 135 yX8_goes]
def wsX8_spin_r2 : List Cond := [Cond.instanceMethod yX8_goes, Cond.selects RX8 yX8_goes yX8_goes, Cond.code yX8_goes cX8_goes 4 (some .boolean), Cond.methodLink RX8 108 yX8_doubleOf, Cond.static yX8_doubleOf, Cond.code yX8_doubleOf cX8_doubleOf 2 (some .double), Cond.methodLink RX8 94 ⟨"java/lang/Double", "longBitsToDouble", "(J)D"⟩, Cond.native ⟨"java/lang/Double", "longBitsToDouble", "(J)D"⟩, Cond.static ⟨"java/lang/Double", "longBitsToDouble", "(J)D"⟩, Cond.initialized "java/lang/Double", Cond.methodLink RX8 123 yX8_goesDouble, Cond.instanceMethod yX8_goesDouble, Cond.selects RX8 yX8_goesDouble yX8_goesDouble, Cond.code yX8_goesDouble cX8_goesDouble 6 (some .boolean), Cond.fieldLink RX8 24 "OrreryDialsModel" "placeD" "[D", Cond.fieldLink RX8 27 "OrreryDialsModel" "lapsOf" "[J", Cond.fieldLink RX8 20 "OrreryDialsModel" "rimD" "[D", Cond.methodLink RX8 119 yX8_isEndless, Cond.static yX8_isEndless, Cond.code yX8_isEndless cX8_isEndless 2 (some .boolean), Cond.constantDouble RX8 82 (9218868437227405311), Cond.constantDouble RX8 84 (18442240474082181119), Cond.methodLink RX8 111 yX8_floatOf, Cond.static yX8_floatOf]
def wsX8_spin_r3 : List Cond := [Cond.code yX8_floatOf cX8_floatOf 2 (some .float), Cond.methodLink RX8 88 ⟨"java/lang/Float", "intBitsToFloat", "(I)F"⟩, Cond.native ⟨"java/lang/Float", "intBitsToFloat", "(I)F"⟩, Cond.static ⟨"java/lang/Float", "intBitsToFloat", "(I)F"⟩, Cond.initialized "java/lang/Float", Cond.methodLink RX8 127 yX8_goesFloat, Cond.instanceMethod yX8_goesFloat, Cond.selects RX8 yX8_goesFloat yX8_goesFloat, Cond.code yX8_goesFloat cX8_goesFloat 4 (some .boolean), Cond.fieldLink RX8 17 "OrreryDialsModel" "placeF" "[F", Cond.fieldLink RX8 13 "OrreryDialsModel" "rimF" "[F", Cond.methodLink RX8 115 yX8_isEndlessFloat, Cond.static yX8_isEndlessFloat, Cond.code yX8_isEndlessFloat cX8_isEndlessFloat 1 (some .boolean), Cond.constantFloat RX8 86 (2139095039), Cond.constantFloat RX8 87 (4286578687), Cond.methodLink RX8 143 yX8_fails, Cond.instanceMethod yX8_fails, Cond.selects RX8 yX8_fails yX8_fails, Cond.code yX8_fails cX8_fails 2 (some .int), Cond.fieldLink RX8 59 "OrreryDialsModel" "counts" "[I"]
def wsX8_spin : List Cond := .code yX8_spin cX8_spin 7 (some .int) :: ((wsX8_spin_r1 ++ (wsX8_spin_r2 ++ wsX8_spin_r3)) ++ wsX80)
def wsJxe99ae_isNaN_b9ae7 : List Cond := .code yJxe99ae_isNaN_b9ae7 cJxe99ae_isNaN_b9ae7 2 (some .boolean) :: ([])
def wsJxe99ae_doubleToLongBits_ccdee : List Cond := .code yJxe99ae_doubleToLongBits_ccdee cJxe99ae_doubleToLongBits_ccdee 2 (some .long) :: ([.methodLink RJxe99ae 134 ⟨"java/lang/Double", "doubleToRawLongBits", "(D)J"⟩, .native ⟨"java/lang/Double", "doubleToRawLongBits", "(D)J"⟩, .static ⟨"java/lang/Double", "doubleToRawLongBits", "(D)J"⟩, .initialized "java/lang/Double", .constantLong RJxe99ae 137 (9221120237041090560), .methodLink RJxe99ae 122 yJxe99ae_isNaN_b9ae7, .static yJxe99ae_isNaN_b9ae7, .initialized RJxe99ae, .code yJxe99ae_isNaN_b9ae7 cJxe99ae_isNaN_b9ae7 2 (some .boolean)])
def wsJxf58ca_isNaN_12338 : List Cond := .code yJxf58ca_isNaN_12338 cJxf58ca_isNaN_12338 1 (some .boolean) :: ([])
def wsJxf58ca_floatToIntBits_5c35a : List Cond := .code yJxf58ca_floatToIntBits_5c35a cJxf58ca_floatToIntBits_5c35a 1 (some .int) :: ([.methodLink RJxf58ca 74 ⟨"java/lang/Float", "floatToRawIntBits", "(F)I"⟩, .native ⟨"java/lang/Float", "floatToRawIntBits", "(F)I"⟩, .static ⟨"java/lang/Float", "floatToRawIntBits", "(F)I"⟩, .initialized "java/lang/Float", .constant RJxf58ca 77 (2143289344), .methodLink RJxf58ca 59 yJxf58ca_isNaN_12338, .static yJxf58ca_isNaN_12338, .initialized RJxf58ca, .code yJxf58ca_isNaN_12338 cJxf58ca_isNaN_12338 1 (some .boolean)])
def wsX8_place_r1 : List Cond := [Cond.fieldLink RX8 7 "OrreryDialsModel" "isFine" "[Z", Cond.fieldLink RX8 24 "OrreryDialsModel" "placeD" "[D", Cond.fieldLink RX8 20 "OrreryDialsModel" "rimD" "[D", Cond.fieldLink RX8 17 "OrreryDialsModel" "placeF" "[F", Cond.fieldLink RX8 13 "OrreryDialsModel" "rimF" "[F", Cond.methodLink RX8 131 yX8_isDial, Cond.instanceMethod yX8_isDial, Cond.selects RX8 yX8_isDial yX8_isDial, Cond.initialized RX8, Cond.code yX8_isDial cX8_isDial 2 (some .boolean), Cond.fieldLink RX8 62 "OrreryDialsModel" "dials" "I", Cond.methodLink RX8 100 yX8_in, Cond.static yX8_in, Cond.code yX8_in cX8_in 6 (some .boolean), Cond.methodLink RX8 148 yJxe99ae_doubleToLongBits_ccdee, Cond.static yJxe99ae_doubleToLongBits_ccdee, Cond.initialized RJxe99ae, Cond.code yJxe99ae_doubleToLongBits_ccdee cJxe99ae_doubleToLongBits_ccdee 2 (some .long), Cond.methodLink RJxe99ae 134 ⟨"java/lang/Double", "doubleToRawLongBits", "(D)J"⟩, Cond.native ⟨"java/lang/Double", "doubleToRawLongBits", "(D)J"⟩, Cond.static ⟨"java/lang/Double", "doubleToRawLongBits", "(D)J"⟩, Cond.initialized "java/lang/Double", Cond.constantLong RJxe99ae 137 (9221120237041090560), Cond.methodLink RJxe99ae 122 yJxe99ae_isNaN_b9ae7]
def wsX8_place_r2 : List Cond := [Cond.static yJxe99ae_isNaN_b9ae7, Cond.code yJxe99ae_isNaN_b9ae7 cJxe99ae_isNaN_b9ae7 2 (some .boolean), Cond.methodLink RX8 152 yJxf58ca_floatToIntBits_5c35a, Cond.static yJxf58ca_floatToIntBits_5c35a, Cond.initialized RJxf58ca, Cond.code yJxf58ca_floatToIntBits_5c35a cJxf58ca_floatToIntBits_5c35a 1 (some .int), Cond.methodLink RJxf58ca 74 ⟨"java/lang/Float", "floatToRawIntBits", "(F)I"⟩, Cond.native ⟨"java/lang/Float", "floatToRawIntBits", "(F)I"⟩, Cond.static ⟨"java/lang/Float", "floatToRawIntBits", "(F)I"⟩, Cond.initialized "java/lang/Float", Cond.constant RJxf58ca 77 (2143289344), Cond.methodLink RJxf58ca 59 yJxf58ca_isNaN_12338, Cond.static yJxf58ca_isNaN_12338, Cond.code yJxf58ca_isNaN_12338 cJxf58ca_isNaN_12338 1 (some .boolean)]
def wsX8_place : List Cond := .code yX8_place cX8_place 3 (some .long) :: ((wsX8_place_r1 ++ wsX8_place_r2) ++ wsX80)
def wsX8_laps : List Cond := .code yX8_laps cX8_laps 2 (some .long) :: ([.fieldLink RX8 27 "OrreryDialsModel" "lapsOf" "[J", .methodLink RX8 131 yX8_isDial, .instanceMethod yX8_isDial, .selects RX8 yX8_isDial yX8_isDial, .initialized RX8, .code yX8_isDial cX8_isDial 2 (some .boolean), .fieldLink RX8 62 "OrreryDialsModel" "dials" "I", .methodLink RX8 100 yX8_in, .static yX8_in, .code yX8_in cX8_in 6 (some .boolean)] ++ wsX80)
def wsX8_fine : List Cond := .code yX8_fine cX8_fine 2 (some .int) :: ([.fieldLink RX8 7 "OrreryDialsModel" "isFine" "[Z", .methodLink RX8 131 yX8_isDial, .instanceMethod yX8_isDial, .selects RX8 yX8_isDial yX8_isDial, .initialized RX8, .code yX8_isDial cX8_isDial 2 (some .boolean), .fieldLink RX8 62 "OrreryDialsModel" "dials" "I", .methodLink RX8 100 yX8_in, .static yX8_in, .code yX8_in cX8_in 6 (some .boolean)] ++ wsX80)
def wsX8_isDrive : List Cond := .code yX8_isDrive cX8_isDrive 2 (some .boolean) :: ([.fieldLink RX8 156 "OrreryDialsModel" "drives" "I", .methodLink RX8 100 yX8_in, .static yX8_in, .initialized RX8, .code yX8_in cX8_in 6 (some .boolean)] ++ wsX80)
def wsX8_isSlot : List Cond := .code yX8_isSlot cX8_isSlot 1 (some .boolean) :: ([.constantLong RX8 159 (5), .methodLink RX8 100 yX8_in, .static yX8_in, .initialized RX8, .code yX8_in cX8_in 6 (some .boolean)])
def wsX8_isShaft : List Cond := .code yX8_isShaft cX8_isShaft 1 (some .boolean) :: ([.methodLink RX8 100 yX8_in, .static yX8_in, .initialized RX8, .code yX8_in cX8_in 6 (some .boolean)])
def wsX8_drive : List Cond := .code yX8_drive cX8_drive 4 (some .int) :: ([.constantLong RX8 161 (2), .fieldLink RX8 156 "OrreryDialsModel" "drives" "I", .fieldLink RX8 31 "OrreryDialsModel" "sortOf" "[I", .fieldLink RX8 35 "OrreryDialsModel" "pullOf" "[D", .fieldLink RX8 38 "OrreryDialsModel" "gearOf" "[I", .fieldLink RX8 41 "OrreryDialsModel" "pulled" "[I", .methodLink RX8 100 yX8_in, .static yX8_in, .initialized RX8, .code yX8_in cX8_in 6 (some .boolean), .methodLink RX8 72 yX8_isFitDouble, .static yX8_isFitDouble, .code yX8_isFitDouble cX8_isFitDouble 2 (some .boolean), .constantLong RX8 70 (9218868437227405312), .methodLink RX8 108 yX8_doubleOf, .static yX8_doubleOf, .code yX8_doubleOf cX8_doubleOf 2 (some .double), .methodLink RX8 94 ⟨"java/lang/Double", "longBitsToDouble", "(J)D"⟩, .native ⟨"java/lang/Double", "longBitsToDouble", "(J)D"⟩, .static ⟨"java/lang/Double", "longBitsToDouble", "(J)D"⟩, .initialized "java/lang/Double"] ++ wsX80)
def wsX8_fit : List Cond := .code yX8_fit cX8_fit 3 (some .int) :: ([.fieldLink RX8 44 "OrreryDialsModel" "slots" "[I", .methodLink RX8 163 yX8_isSlot, .static yX8_isSlot, .initialized RX8, .code yX8_isSlot cX8_isSlot 1 (some .boolean), .constantLong RX8 159 (5), .methodLink RX8 100 yX8_in, .static yX8_in, .code yX8_in cX8_in 6 (some .boolean), .methodLink RX8 166 yX8_isDrive, .instanceMethod yX8_isDrive, .selects RX8 yX8_isDrive yX8_isDrive, .code yX8_isDrive cX8_isDrive 2 (some .boolean), .fieldLink RX8 156 "OrreryDialsModel" "drives" "I"] ++ wsX80)
def wsX8_hauls_r1 : List Cond := [Cond.fieldLink RX8 35 "OrreryDialsModel" "pullOf" "[D", Cond.fieldLink RX8 31 "OrreryDialsModel" "sortOf" "[I", Cond.fieldLink RX8 7 "OrreryDialsModel" "isFine" "[Z", Cond.fieldLink RX8 24 "OrreryDialsModel" "placeD" "[D", Cond.fieldLink RX8 17 "OrreryDialsModel" "placeF" "[F", Cond.fieldLink RX8 38 "OrreryDialsModel" "gearOf" "[I", Cond.fieldLink RX8 41 "OrreryDialsModel" "pulled" "[I", Cond.methodLink RX8 119 yX8_isEndless, Cond.static yX8_isEndless, Cond.initialized RX8, Cond.code yX8_isEndless cX8_isEndless 2 (some .boolean), Cond.constantDouble RX8 82 (9218868437227405311), Cond.constantDouble RX8 84 (18442240474082181119), Cond.methodLink RX8 123 yX8_goesDouble, Cond.instanceMethod yX8_goesDouble, Cond.selects RX8 yX8_goesDouble yX8_goesDouble, Cond.code yX8_goesDouble cX8_goesDouble 6 (some .boolean), Cond.fieldLink RX8 27 "OrreryDialsModel" "lapsOf" "[J", Cond.fieldLink RX8 20 "OrreryDialsModel" "rimD" "[D", Cond.methodLink RX8 115 yX8_isEndlessFloat, Cond.static yX8_isEndlessFloat, Cond.code yX8_isEndlessFloat cX8_isEndlessFloat 1 (some .boolean), Cond.constantFloat RX8 86 (2139095039), Cond.constantFloat RX8 87 (4286578687)]
def wsX8_hauls_r2 : List Cond := [Cond.methodLink RX8 127 yX8_goesFloat, Cond.instanceMethod yX8_goesFloat, Cond.selects RX8 yX8_goesFloat yX8_goesFloat, Cond.code yX8_goesFloat cX8_goesFloat 4 (some .boolean), Cond.fieldLink RX8 13 "OrreryDialsModel" "rimF" "[F"]
def wsX8_hauls : List Cond := .code yX8_hauls cX8_hauls 12 (some .boolean) :: ((wsX8_hauls_r1 ++ wsX8_hauls_r2) ++ wsX80)
def wsX8_pullCause_r1 : List Cond := [Cond.methodLink RX8 169 yX8_hauls, Cond.instanceMethod yX8_hauls, Cond.selects RX8 yX8_hauls yX8_hauls, Cond.initialized RX8, Cond.code yX8_hauls cX8_hauls 12 (some .boolean), Cond.fieldLink RX8 35 "OrreryDialsModel" "pullOf" "[D", Cond.fieldLink RX8 31 "OrreryDialsModel" "sortOf" "[I", Cond.fieldLink RX8 7 "OrreryDialsModel" "isFine" "[Z", Cond.fieldLink RX8 24 "OrreryDialsModel" "placeD" "[D", Cond.fieldLink RX8 17 "OrreryDialsModel" "placeF" "[F", Cond.fieldLink RX8 38 "OrreryDialsModel" "gearOf" "[I", Cond.fieldLink RX8 41 "OrreryDialsModel" "pulled" "[I", Cond.methodLink RX8 119 yX8_isEndless, Cond.static yX8_isEndless, Cond.code yX8_isEndless cX8_isEndless 2 (some .boolean), Cond.constantDouble RX8 82 (9218868437227405311), Cond.constantDouble RX8 84 (18442240474082181119), Cond.methodLink RX8 123 yX8_goesDouble, Cond.instanceMethod yX8_goesDouble, Cond.selects RX8 yX8_goesDouble yX8_goesDouble, Cond.code yX8_goesDouble cX8_goesDouble 6 (some .boolean), Cond.fieldLink RX8 27 "OrreryDialsModel" "lapsOf" "[J", Cond.fieldLink RX8 20 "OrreryDialsModel" "rimD" "[D", Cond.methodLink RX8 115 yX8_isEndlessFloat]
def wsX8_pullCause_r2 : List Cond := [Cond.static yX8_isEndlessFloat, Cond.code yX8_isEndlessFloat cX8_isEndlessFloat 1 (some .boolean), Cond.constantFloat RX8 86 (2139095039), Cond.constantFloat RX8 87 (4286578687), Cond.methodLink RX8 127 yX8_goesFloat, Cond.instanceMethod yX8_goesFloat, Cond.selects RX8 yX8_goesFloat yX8_goesFloat, Cond.code yX8_goesFloat cX8_goesFloat 4 (some .boolean), Cond.fieldLink RX8 13 "OrreryDialsModel" "rimF" "[F"]
def wsX8_pullCause : List Cond := .code yX8_pullCause cX8_pullCause 3 (some .int) :: ((wsX8_pullCause_r1 ++ wsX8_pullCause_r2) ++ wsX80)
def wsX8_pull_r1 : List Cond := [Cond.fieldLink RX8 44 "OrreryDialsModel" "slots" "[I", Cond.methodLink RX8 163 yX8_isSlot, Cond.static yX8_isSlot, Cond.initialized RX8, Cond.code yX8_isSlot cX8_isSlot 1 (some .boolean), Cond.constantLong RX8 159 (5), Cond.methodLink RX8 100 yX8_in, Cond.static yX8_in, Cond.code yX8_in cX8_in 6 (some .boolean), Cond.methodLink RX8 131 yX8_isDial, Cond.instanceMethod yX8_isDial, Cond.selects RX8 yX8_isDial yX8_isDial, Cond.code yX8_isDial cX8_isDial 2 (some .boolean), Cond.fieldLink RX8 62 "OrreryDialsModel" "dials" "I", Cond.methodLink RX8 173 yX8_pullCause, Cond.instanceMethod yX8_pullCause, Cond.selects RX8 yX8_pullCause yX8_pullCause, Cond.code yX8_pullCause cX8_pullCause 3 (some .int), Cond.methodLink RX8 169 yX8_hauls, Cond.instanceMethod yX8_hauls, Cond.selects RX8 yX8_hauls yX8_hauls, Cond.code yX8_hauls cX8_hauls 12 (some .boolean), Cond.fieldLink RX8 35 "OrreryDialsModel" "pullOf" "[D", Cond.fieldLink RX8 31 "OrreryDialsModel" "sortOf" "[I"]
def wsX8_pull_r2 : List Cond := [Cond.fieldLink RX8 7 "OrreryDialsModel" "isFine" "[Z", Cond.fieldLink RX8 24 "OrreryDialsModel" "placeD" "[D", Cond.fieldLink RX8 17 "OrreryDialsModel" "placeF" "[F", Cond.fieldLink RX8 38 "OrreryDialsModel" "gearOf" "[I", Cond.fieldLink RX8 41 "OrreryDialsModel" "pulled" "[I", Cond.methodLink RX8 119 yX8_isEndless, Cond.static yX8_isEndless, Cond.code yX8_isEndless cX8_isEndless 2 (some .boolean), Cond.constantDouble RX8 82 (9218868437227405311), Cond.constantDouble RX8 84 (18442240474082181119), Cond.methodLink RX8 123 yX8_goesDouble, Cond.instanceMethod yX8_goesDouble, Cond.selects RX8 yX8_goesDouble yX8_goesDouble, Cond.code yX8_goesDouble cX8_goesDouble 6 (some .boolean), Cond.fieldLink RX8 27 "OrreryDialsModel" "lapsOf" "[J", Cond.fieldLink RX8 20 "OrreryDialsModel" "rimD" "[D", Cond.methodLink RX8 115 yX8_isEndlessFloat, Cond.static yX8_isEndlessFloat, Cond.code yX8_isEndlessFloat cX8_isEndlessFloat 1 (some .boolean), Cond.constantFloat RX8 86 (2139095039), Cond.constantFloat RX8 87 (4286578687), Cond.methodLink RX8 127 yX8_goesFloat, Cond.instanceMethod yX8_goesFloat, Cond.selects RX8 yX8_goesFloat yX8_goesFloat]
def wsX8_pull_r3 : List Cond := [Cond.code yX8_goesFloat cX8_goesFloat 4 (some .boolean), Cond.fieldLink RX8 13 "OrreryDialsModel" "rimF" "[F", Cond.methodLink RX8 139 yX8_done, Cond.instanceMethod yX8_done, Cond.selects RX8 yX8_done yX8_done, Cond.code yX8_done cX8_done 2 (some .int), Cond.fieldLink RX8 66 "OrreryDialsModel" "failed" "I", Cond.methodLink RX8 143 yX8_fails, Cond.instanceMethod yX8_fails, Cond.selects RX8 yX8_fails yX8_fails, Cond.code yX8_fails cX8_fails 2 (some .int), Cond.fieldLink RX8 59 "OrreryDialsModel" "counts" "[I"]
def wsX8_pull : List Cond := .code yX8_pull cX8_pull 4 (some .int) :: ((wsX8_pull_r1 ++ (wsX8_pull_r2 ++ wsX8_pull_r3)) ++ wsX80)
def wsX8_gear : List Cond := .code yX8_gear cX8_gear 5 (some .int) :: ([.constantLong RX8 177 (-1000), .constantLong RX8 179 (1000), .fieldLink RX8 44 "OrreryDialsModel" "slots" "[I", .fieldLink RX8 31 "OrreryDialsModel" "sortOf" "[I", .fieldLink RX8 38 "OrreryDialsModel" "gearOf" "[I", .methodLink RX8 163 yX8_isSlot, .static yX8_isSlot, .initialized RX8, .code yX8_isSlot cX8_isSlot 1 (some .boolean), .constantLong RX8 159 (5), .methodLink RX8 100 yX8_in, .static yX8_in, .code yX8_in cX8_in 6 (some .boolean), .methodLink RX8 143 yX8_fails, .instanceMethod yX8_fails, .selects RX8 yX8_fails yX8_fails, .code yX8_fails cX8_fails 2 (some .int), .fieldLink RX8 66 "OrreryDialsModel" "failed" "I", .fieldLink RX8 59 "OrreryDialsModel" "counts" "[I", .methodLink RX8 139 yX8_done, .instanceMethod yX8_done, .selects RX8 yX8_done yX8_done, .code yX8_done cX8_done 2 (some .int)] ++ wsX80)
def wsX8_lay_r1 : List Cond := [Cond.constantLong RX8 184 (3), Cond.fieldLink RX8 44 "OrreryDialsModel" "slots" "[I", Cond.fieldLink RX8 31 "OrreryDialsModel" "sortOf" "[I", Cond.fieldLink RX8 47 "OrreryDialsModel" "shafts" "[I", Cond.methodLink RX8 181 yX8_isShaft, Cond.static yX8_isShaft, Cond.initialized RX8, Cond.code yX8_isShaft cX8_isShaft 1 (some .boolean), Cond.methodLink RX8 100 yX8_in, Cond.static yX8_in, Cond.code yX8_in cX8_in 6 (some .boolean), Cond.methodLink RX8 163 yX8_isSlot, Cond.static yX8_isSlot, Cond.code yX8_isSlot cX8_isSlot 1 (some .boolean), Cond.constantLong RX8 159 (5), Cond.methodLink RX8 143 yX8_fails, Cond.instanceMethod yX8_fails, Cond.selects RX8 yX8_fails yX8_fails, Cond.code yX8_fails cX8_fails 2 (some .int), Cond.fieldLink RX8 66 "OrreryDialsModel" "failed" "I", Cond.fieldLink RX8 59 "OrreryDialsModel" "counts" "[I", Cond.methodLink RX8 139 yX8_done, Cond.instanceMethod yX8_done, Cond.selects RX8 yX8_done yX8_done]
def wsX8_lay_r2 : List Cond := [Cond.code yX8_done cX8_done 2 (some .int)]
def wsX8_lay : List Cond := .code yX8_lay cX8_lay 5 (some .int) :: ((wsX8_lay_r1 ++ wsX8_lay_r2) ++ wsX80)
def wsX8_wind_r1 : List Cond := [Cond.fieldLink RX8 66 "OrreryDialsModel" "failed" "I", Cond.fieldLink RX8 47 "OrreryDialsModel" "shafts" "[I", Cond.methodLink RX8 181 yX8_isShaft, Cond.static yX8_isShaft, Cond.initialized RX8, Cond.code yX8_isShaft cX8_isShaft 1 (some .boolean), Cond.methodLink RX8 100 yX8_in, Cond.static yX8_in, Cond.code yX8_in cX8_in 6 (some .boolean), Cond.methodLink RX8 131 yX8_isDial, Cond.instanceMethod yX8_isDial, Cond.selects RX8 yX8_isDial yX8_isDial, Cond.code yX8_isDial cX8_isDial 2 (some .boolean), Cond.fieldLink RX8 62 "OrreryDialsModel" "dials" "I", Cond.methodLink RX8 173 yX8_pullCause, Cond.instanceMethod yX8_pullCause, Cond.selects RX8 yX8_pullCause yX8_pullCause, Cond.code yX8_pullCause cX8_pullCause 3 (some .int), Cond.methodLink RX8 169 yX8_hauls, Cond.instanceMethod yX8_hauls, Cond.selects RX8 yX8_hauls yX8_hauls, Cond.code yX8_hauls cX8_hauls 12 (some .boolean), Cond.fieldLink RX8 35 "OrreryDialsModel" "pullOf" "[D", Cond.fieldLink RX8 31 "OrreryDialsModel" "sortOf" "[I"]
def wsX8_wind_r2 : List Cond := [Cond.fieldLink RX8 7 "OrreryDialsModel" "isFine" "[Z", Cond.fieldLink RX8 24 "OrreryDialsModel" "placeD" "[D", Cond.fieldLink RX8 17 "OrreryDialsModel" "placeF" "[F", Cond.fieldLink RX8 38 "OrreryDialsModel" "gearOf" "[I", Cond.fieldLink RX8 41 "OrreryDialsModel" "pulled" "[I", Cond.methodLink RX8 119 yX8_isEndless, Cond.static yX8_isEndless, Cond.code yX8_isEndless cX8_isEndless 2 (some .boolean), Cond.constantDouble RX8 82 (9218868437227405311), Cond.constantDouble RX8 84 (18442240474082181119), Cond.methodLink RX8 123 yX8_goesDouble, Cond.instanceMethod yX8_goesDouble, Cond.selects RX8 yX8_goesDouble yX8_goesDouble, Cond.code yX8_goesDouble cX8_goesDouble 6 (some .boolean), Cond.fieldLink RX8 27 "OrreryDialsModel" "lapsOf" "[J", Cond.fieldLink RX8 20 "OrreryDialsModel" "rimD" "[D", Cond.methodLink RX8 115 yX8_isEndlessFloat, Cond.static yX8_isEndlessFloat, Cond.code yX8_isEndlessFloat cX8_isEndlessFloat 1 (some .boolean), Cond.constantFloat RX8 86 (2139095039), Cond.constantFloat RX8 87 (4286578687), Cond.methodLink RX8 127 yX8_goesFloat, Cond.instanceMethod yX8_goesFloat, Cond.selects RX8 yX8_goesFloat yX8_goesFloat]
def wsX8_wind_r3 : List Cond := [Cond.code yX8_goesFloat cX8_goesFloat 4 (some .boolean), Cond.fieldLink RX8 13 "OrreryDialsModel" "rimF" "[F", Cond.methodLink RX8 143 yX8_fails, Cond.instanceMethod yX8_fails, Cond.selects RX8 yX8_fails yX8_fails, Cond.code yX8_fails cX8_fails 2 (some .int), Cond.fieldLink RX8 59 "OrreryDialsModel" "counts" "[I"]
def wsX8_wind : List Cond := .code yX8_wind cX8_wind 5 (some .int) :: ((wsX8_wind_r1 ++ (wsX8_wind_r2 ++ wsX8_wind_r3)) ++ wsX80)
def wsX8_laid : List Cond := .code yX8_laid cX8_laid 3 (some .int) :: ([.constantLong RX8 184 (3), .fieldLink RX8 47 "OrreryDialsModel" "shafts" "[I", .methodLink RX8 181 yX8_isShaft, .static yX8_isShaft, .initialized RX8, .code yX8_isShaft cX8_isShaft 1 (some .boolean), .methodLink RX8 100 yX8_in, .static yX8_in, .code yX8_in cX8_in 6 (some .boolean), .methodLink RX8 139 yX8_done, .instanceMethod yX8_done, .selects RX8 yX8_done yX8_done, .code yX8_done cX8_done 2 (some .int), .fieldLink RX8 66 "OrreryDialsModel" "failed" "I", .methodLink RX8 143 yX8_fails, .instanceMethod yX8_fails, .selects RX8 yX8_fails yX8_fails, .code yX8_fails cX8_fails 2 (some .int), .fieldLink RX8 59 "OrreryDialsModel" "counts" "[I"] ++ wsX80)
def wsX8_pulls : List Cond := .code yX8_pulls cX8_pulls 2 (some .int) :: ([.fieldLink RX8 41 "OrreryDialsModel" "pulled" "[I", .methodLink RX8 166 yX8_isDrive, .instanceMethod yX8_isDrive, .selects RX8 yX8_isDrive yX8_isDrive, .initialized RX8, .code yX8_isDrive cX8_isDrive 2 (some .boolean), .fieldLink RX8 156 "OrreryDialsModel" "drives" "I", .methodLink RX8 100 yX8_in, .static yX8_in, .code yX8_in cX8_in 6 (some .boolean)] ++ wsX80)
def wsX8_isLog : List Cond := .code yX8_isLog cX8_isLog 1 (some .boolean) :: ([.constantLong RX8 186 (7), .methodLink RX8 100 yX8_in, .static yX8_in, .initialized RX8, .code yX8_in cX8_in 6 (some .boolean)])
def wsX8_rowOf : List Cond := .code yX8_rowOf cX8_rowOf 2 (some .int) :: ([])
def wsX8_cause : List Cond := .code yX8_cause cX8_cause 3 (some .int) :: ([.fieldLink RX8 50 "OrreryDialsModel" "many" "[I", .methodLink RX8 100 yX8_in, .static yX8_in, .initialized RX8, .code yX8_in cX8_in 6 (some .boolean)] ++ wsX80)
def wsX8_log : List Cond := .code yX8_log cX8_log 5 (some .int) :: ([.constantLong RX8 191 (-1), .constantLong RX8 193 (16), .fieldLink RX8 50 "OrreryDialsModel" "many" "[I", .fieldLink RX8 53 "OrreryDialsModel" "floats" "[F", .fieldLink RX8 56 "OrreryDialsModel" "doubles" "[D", .methodLink RX8 188 yX8_isLog, .static yX8_isLog, .initialized RX8, .code yX8_isLog cX8_isLog 1 (some .boolean), .constantLong RX8 186 (7), .methodLink RX8 100 yX8_in, .static yX8_in, .code yX8_in cX8_in 6 (some .boolean), .methodLink RX8 195 yX8_rowOf, .static yX8_rowOf, .code yX8_rowOf cX8_rowOf 2 (some .int)] ++ wsX80)
def wsX8_write_r1 : List Cond := [Cond.fieldLink RX8 56 "OrreryDialsModel" "doubles" "[D", Cond.fieldLink RX8 53 "OrreryDialsModel" "floats" "[F", Cond.methodLink RX8 188 yX8_isLog, Cond.static yX8_isLog, Cond.initialized RX8, Cond.code yX8_isLog cX8_isLog 1 (some .boolean), Cond.constantLong RX8 186 (7), Cond.methodLink RX8 100 yX8_in, Cond.static yX8_in, Cond.code yX8_in cX8_in 6 (some .boolean), Cond.methodLink RX8 104 yX8_isFit, Cond.static yX8_isFit, Cond.code yX8_isFit cX8_isFit 3 (some .boolean), Cond.methodLink RX8 72 yX8_isFitDouble, Cond.static yX8_isFitDouble, Cond.code yX8_isFitDouble cX8_isFitDouble 2 (some .boolean), Cond.constantLong RX8 70 (9218868437227405312), Cond.methodLink RX8 76 yX8_isFitFloat, Cond.static yX8_isFitFloat, Cond.code yX8_isFitFloat cX8_isFitFloat 2 (some .boolean), Cond.constant RX8 69 (2139095040), Cond.methodLink RX8 195 yX8_rowOf, Cond.static yX8_rowOf, Cond.code yX8_rowOf cX8_rowOf 2 (some .int)]
def wsX8_write_r2 : List Cond := [Cond.methodLink RX8 199 yX8_cause, Cond.instanceMethod yX8_cause, Cond.selects RX8 yX8_cause yX8_cause, Cond.code yX8_cause cX8_cause 3 (some .int), Cond.fieldLink RX8 50 "OrreryDialsModel" "many" "[I", Cond.methodLink RX8 143 yX8_fails, Cond.instanceMethod yX8_fails, Cond.selects RX8 yX8_fails yX8_fails, Cond.code yX8_fails cX8_fails 2 (some .int), Cond.fieldLink RX8 66 "OrreryDialsModel" "failed" "I", Cond.fieldLink RX8 59 "OrreryDialsModel" "counts" "[I", Cond.methodLink RX8 108 yX8_doubleOf, Cond.static yX8_doubleOf, Cond.code yX8_doubleOf cX8_doubleOf 2 (some .double), Cond.methodLink RX8 94 ⟨"java/lang/Double", "longBitsToDouble", "(J)D"⟩, Cond.native ⟨"java/lang/Double", "longBitsToDouble", "(J)D"⟩, Cond.static ⟨"java/lang/Double", "longBitsToDouble", "(J)D"⟩, Cond.initialized "java/lang/Double", Cond.methodLink RX8 111 yX8_floatOf, Cond.static yX8_floatOf, Cond.code yX8_floatOf cX8_floatOf 2 (some .float), Cond.methodLink RX8 88 ⟨"java/lang/Float", "intBitsToFloat", "(I)F"⟩, Cond.native ⟨"java/lang/Float", "intBitsToFloat", "(I)F"⟩, Cond.static ⟨"java/lang/Float", "intBitsToFloat", "(I)F"⟩]
def wsX8_write_r3 : List Cond := [Cond.initialized "java/lang/Float", Cond.methodLink RX8 139 yX8_done, Cond.instanceMethod yX8_done, Cond.selects RX8 yX8_done yX8_done, Cond.code yX8_done cX8_done 2 (some .int)]
def wsX8_write : List Cond := .code yX8_write cX8_write 7 (some .int) :: ((wsX8_write_r1 ++ (wsX8_write_r2 ++ wsX8_write_r3)) ++ wsX80)
def wsX8_read_r1 : List Cond := [Cond.fieldLink RX8 56 "OrreryDialsModel" "doubles" "[D", Cond.fieldLink RX8 53 "OrreryDialsModel" "floats" "[F", Cond.fieldLink RX8 202 "OrreryDialsModel" "seen" "J", Cond.methodLink RX8 188 yX8_isLog, Cond.static yX8_isLog, Cond.initialized RX8, Cond.code yX8_isLog cX8_isLog 1 (some .boolean), Cond.constantLong RX8 186 (7), Cond.methodLink RX8 100 yX8_in, Cond.static yX8_in, Cond.code yX8_in cX8_in 6 (some .boolean), Cond.methodLink RX8 195 yX8_rowOf, Cond.static yX8_rowOf, Cond.code yX8_rowOf cX8_rowOf 2 (some .int), Cond.methodLink RX8 199 yX8_cause, Cond.instanceMethod yX8_cause, Cond.selects RX8 yX8_cause yX8_cause, Cond.code yX8_cause cX8_cause 3 (some .int), Cond.fieldLink RX8 50 "OrreryDialsModel" "many" "[I", Cond.methodLink RX8 143 yX8_fails, Cond.instanceMethod yX8_fails, Cond.selects RX8 yX8_fails yX8_fails, Cond.code yX8_fails cX8_fails 2 (some .int), Cond.fieldLink RX8 66 "OrreryDialsModel" "failed" "I"]
def wsX8_read_r2 : List Cond := [Cond.fieldLink RX8 59 "OrreryDialsModel" "counts" "[I", Cond.methodLink RX8 148 yJxe99ae_doubleToLongBits_ccdee, Cond.static yJxe99ae_doubleToLongBits_ccdee, Cond.initialized RJxe99ae, Cond.code yJxe99ae_doubleToLongBits_ccdee cJxe99ae_doubleToLongBits_ccdee 2 (some .long), Cond.methodLink RJxe99ae 134 ⟨"java/lang/Double", "doubleToRawLongBits", "(D)J"⟩, Cond.native ⟨"java/lang/Double", "doubleToRawLongBits", "(D)J"⟩, Cond.static ⟨"java/lang/Double", "doubleToRawLongBits", "(D)J"⟩, Cond.initialized "java/lang/Double", Cond.constantLong RJxe99ae 137 (9221120237041090560), Cond.methodLink RJxe99ae 122 yJxe99ae_isNaN_b9ae7, Cond.static yJxe99ae_isNaN_b9ae7, Cond.code yJxe99ae_isNaN_b9ae7 cJxe99ae_isNaN_b9ae7 2 (some .boolean), Cond.methodLink RX8 152 yJxf58ca_floatToIntBits_5c35a, Cond.static yJxf58ca_floatToIntBits_5c35a, Cond.initialized RJxf58ca, Cond.code yJxf58ca_floatToIntBits_5c35a cJxf58ca_floatToIntBits_5c35a 1 (some .int), Cond.methodLink RJxf58ca 74 ⟨"java/lang/Float", "floatToRawIntBits", "(F)I"⟩, Cond.native ⟨"java/lang/Float", "floatToRawIntBits", "(F)I"⟩, Cond.static ⟨"java/lang/Float", "floatToRawIntBits", "(F)I"⟩, Cond.initialized "java/lang/Float", Cond.constant RJxf58ca 77 (2143289344), Cond.methodLink RJxf58ca 59 yJxf58ca_isNaN_12338, Cond.static yJxf58ca_isNaN_12338]
def wsX8_read_r3 : List Cond := [Cond.code yJxf58ca_isNaN_12338 cJxf58ca_isNaN_12338 1 (some .boolean), Cond.methodLink RX8 139 yX8_done, Cond.instanceMethod yX8_done, Cond.selects RX8 yX8_done yX8_done, Cond.code yX8_done cX8_done 2 (some .int)]
def wsX8_read : List Cond := .code yX8_read cX8_read 5 (some .int) :: ((wsX8_read_r1 ++ (wsX8_read_r2 ++ wsX8_read_r3)) ++ wsX80)
def wsX8_seen : List Cond := .code yX8_seen cX8_seen 1 (some .long) :: ([.fieldLink RX8 202 "OrreryDialsModel" "seen" "J"] ++ wsX80)
def wsX8_note_r1 : List Cond := [Cond.fieldLink RX8 56 "OrreryDialsModel" "doubles" "[D", Cond.fieldLink RX8 7 "OrreryDialsModel" "isFine" "[Z", Cond.fieldLink RX8 24 "OrreryDialsModel" "placeD" "[D", Cond.fieldLink RX8 17 "OrreryDialsModel" "placeF" "[F", Cond.fieldLink RX8 53 "OrreryDialsModel" "floats" "[F", Cond.methodLink RX8 188 yX8_isLog, Cond.static yX8_isLog, Cond.initialized RX8, Cond.code yX8_isLog cX8_isLog 1 (some .boolean), Cond.constantLong RX8 186 (7), Cond.methodLink RX8 100 yX8_in, Cond.static yX8_in, Cond.code yX8_in cX8_in 6 (some .boolean), Cond.methodLink RX8 131 yX8_isDial, Cond.instanceMethod yX8_isDial, Cond.selects RX8 yX8_isDial yX8_isDial, Cond.code yX8_isDial cX8_isDial 2 (some .boolean), Cond.fieldLink RX8 62 "OrreryDialsModel" "dials" "I", Cond.methodLink RX8 195 yX8_rowOf, Cond.static yX8_rowOf, Cond.code yX8_rowOf cX8_rowOf 2 (some .int), Cond.methodLink RX8 199 yX8_cause, Cond.instanceMethod yX8_cause, Cond.selects RX8 yX8_cause yX8_cause]
def wsX8_note_r2 : List Cond := [Cond.code yX8_cause cX8_cause 3 (some .int), Cond.fieldLink RX8 50 "OrreryDialsModel" "many" "[I", Cond.methodLink RX8 143 yX8_fails, Cond.instanceMethod yX8_fails, Cond.selects RX8 yX8_fails yX8_fails, Cond.code yX8_fails cX8_fails 2 (some .int), Cond.fieldLink RX8 66 "OrreryDialsModel" "failed" "I", Cond.fieldLink RX8 59 "OrreryDialsModel" "counts" "[I", Cond.methodLink RX8 139 yX8_done, Cond.instanceMethod yX8_done, Cond.selects RX8 yX8_done yX8_done, Cond.code yX8_done cX8_done 2 (some .int)]
def wsX8_note : List Cond := .code yX8_note cX8_note 6 (some .int) :: ((wsX8_note_r1 ++ wsX8_note_r2) ++ wsX80)
def wsX8_recall_r1 : List Cond := [Cond.fieldLink RX8 56 "OrreryDialsModel" "doubles" "[D", Cond.fieldLink RX8 53 "OrreryDialsModel" "floats" "[F", Cond.fieldLink RX8 7 "OrreryDialsModel" "isFine" "[Z", Cond.fieldLink RX8 24 "OrreryDialsModel" "placeD" "[D", Cond.fieldLink RX8 20 "OrreryDialsModel" "rimD" "[D", Cond.fieldLink RX8 17 "OrreryDialsModel" "placeF" "[F", Cond.fieldLink RX8 13 "OrreryDialsModel" "rimF" "[F", Cond.methodLink RX8 188 yX8_isLog, Cond.static yX8_isLog, Cond.initialized RX8, Cond.code yX8_isLog cX8_isLog 1 (some .boolean), Cond.constantLong RX8 186 (7), Cond.methodLink RX8 100 yX8_in, Cond.static yX8_in, Cond.code yX8_in cX8_in 6 (some .boolean), Cond.methodLink RX8 131 yX8_isDial, Cond.instanceMethod yX8_isDial, Cond.selects RX8 yX8_isDial yX8_isDial, Cond.code yX8_isDial cX8_isDial 2 (some .boolean), Cond.fieldLink RX8 62 "OrreryDialsModel" "dials" "I", Cond.methodLink RX8 195 yX8_rowOf, Cond.static yX8_rowOf, Cond.code yX8_rowOf cX8_rowOf 2 (some .int), Cond.methodLink RX8 199 yX8_cause]
def wsX8_recall_r2 : List Cond := [Cond.instanceMethod yX8_cause, Cond.selects RX8 yX8_cause yX8_cause, Cond.code yX8_cause cX8_cause 3 (some .int), Cond.fieldLink RX8 50 "OrreryDialsModel" "many" "[I", Cond.methodLink RX8 143 yX8_fails, Cond.instanceMethod yX8_fails, Cond.selects RX8 yX8_fails yX8_fails, Cond.code yX8_fails cX8_fails 2 (some .int), Cond.fieldLink RX8 66 "OrreryDialsModel" "failed" "I", Cond.fieldLink RX8 59 "OrreryDialsModel" "counts" "[I", Cond.methodLink RX8 119 yX8_isEndless, Cond.static yX8_isEndless, Cond.code yX8_isEndless cX8_isEndless 2 (some .boolean), Cond.constantDouble RX8 82 (9218868437227405311), Cond.constantDouble RX8 84 (18442240474082181119), Cond.methodLink RX8 115 yX8_isEndlessFloat, Cond.static yX8_isEndlessFloat, Cond.code yX8_isEndlessFloat cX8_isEndlessFloat 1 (some .boolean), Cond.constantFloat RX8 86 (2139095039), Cond.constantFloat RX8 87 (4286578687), Cond.methodLink RX8 139 yX8_done, Cond.instanceMethod yX8_done, Cond.selects RX8 yX8_done yX8_done, Cond.code yX8_done cX8_done 2 (some .int)]
def wsX8_recall : List Cond := .code yX8_recall cX8_recall 9 (some .int) :: ((wsX8_recall_r1 ++ wsX8_recall_r2) ++ wsX80)
def wsX8_sift_r1 : List Cond := [Cond.fieldLink RX8 50 "OrreryDialsModel" "many" "[I", Cond.fieldLink RX8 56 "OrreryDialsModel" "doubles" "[D", Cond.fieldLink RX8 53 "OrreryDialsModel" "floats" "[F", Cond.fieldLink RX8 202 "OrreryDialsModel" "seen" "J", Cond.methodLink RX8 188 yX8_isLog, Cond.static yX8_isLog, Cond.initialized RX8, Cond.code yX8_isLog cX8_isLog 1 (some .boolean), Cond.constantLong RX8 186 (7), Cond.methodLink RX8 100 yX8_in, Cond.static yX8_in, Cond.code yX8_in cX8_in 6 (some .boolean), Cond.methodLink RX8 104 yX8_isFit, Cond.static yX8_isFit, Cond.code yX8_isFit cX8_isFit 3 (some .boolean), Cond.methodLink RX8 72 yX8_isFitDouble, Cond.static yX8_isFitDouble, Cond.code yX8_isFitDouble cX8_isFitDouble 2 (some .boolean), Cond.constantLong RX8 70 (9218868437227405312), Cond.methodLink RX8 76 yX8_isFitFloat, Cond.static yX8_isFitFloat, Cond.code yX8_isFitFloat cX8_isFitFloat 2 (some .boolean), Cond.constant RX8 69 (2139095040), Cond.methodLink RX8 195 yX8_rowOf]
def wsX8_sift_r2 : List Cond := [Cond.static yX8_rowOf, Cond.code yX8_rowOf cX8_rowOf 2 (some .int), Cond.methodLink RX8 143 yX8_fails, Cond.instanceMethod yX8_fails, Cond.selects RX8 yX8_fails yX8_fails, Cond.code yX8_fails cX8_fails 2 (some .int), Cond.fieldLink RX8 66 "OrreryDialsModel" "failed" "I", Cond.fieldLink RX8 59 "OrreryDialsModel" "counts" "[I", Cond.methodLink RX8 111 yX8_floatOf, Cond.static yX8_floatOf, Cond.code yX8_floatOf cX8_floatOf 2 (some .float), Cond.methodLink RX8 88 ⟨"java/lang/Float", "intBitsToFloat", "(I)F"⟩, Cond.native ⟨"java/lang/Float", "intBitsToFloat", "(I)F"⟩, Cond.static ⟨"java/lang/Float", "intBitsToFloat", "(I)F"⟩, Cond.initialized "java/lang/Float", Cond.methodLink RX8 108 yX8_doubleOf, Cond.static yX8_doubleOf, Cond.code yX8_doubleOf cX8_doubleOf 2 (some .double), Cond.methodLink RX8 94 ⟨"java/lang/Double", "longBitsToDouble", "(J)D"⟩, Cond.native ⟨"java/lang/Double", "longBitsToDouble", "(J)D"⟩, Cond.static ⟨"java/lang/Double", "longBitsToDouble", "(J)D"⟩, Cond.initialized "java/lang/Double", Cond.methodLink RX8 148 yJxe99ae_doubleToLongBits_ccdee, Cond.static yJxe99ae_doubleToLongBits_ccdee]
def wsX8_sift_r3 : List Cond := [Cond.initialized RJxe99ae, Cond.code yJxe99ae_doubleToLongBits_ccdee cJxe99ae_doubleToLongBits_ccdee 2 (some .long), Cond.methodLink RJxe99ae 134 ⟨"java/lang/Double", "doubleToRawLongBits", "(D)J"⟩, Cond.native ⟨"java/lang/Double", "doubleToRawLongBits", "(D)J"⟩, Cond.static ⟨"java/lang/Double", "doubleToRawLongBits", "(D)J"⟩, Cond.constantLong RJxe99ae 137 (9221120237041090560), Cond.methodLink RJxe99ae 122 yJxe99ae_isNaN_b9ae7, Cond.static yJxe99ae_isNaN_b9ae7, Cond.code yJxe99ae_isNaN_b9ae7 cJxe99ae_isNaN_b9ae7 2 (some .boolean), Cond.methodLink RX8 152 yJxf58ca_floatToIntBits_5c35a, Cond.static yJxf58ca_floatToIntBits_5c35a, Cond.initialized RJxf58ca, Cond.code yJxf58ca_floatToIntBits_5c35a cJxf58ca_floatToIntBits_5c35a 1 (some .int), Cond.methodLink RJxf58ca 74 ⟨"java/lang/Float", "floatToRawIntBits", "(F)I"⟩, Cond.native ⟨"java/lang/Float", "floatToRawIntBits", "(F)I"⟩, Cond.static ⟨"java/lang/Float", "floatToRawIntBits", "(F)I"⟩, Cond.constant RJxf58ca 77 (2143289344), Cond.methodLink RJxf58ca 59 yJxf58ca_isNaN_12338, Cond.static yJxf58ca_isNaN_12338, Cond.code yJxf58ca_isNaN_12338 cJxf58ca_isNaN_12338 1 (some .boolean), Cond.methodLink RX8 139 yX8_done, Cond.instanceMethod yX8_done, Cond.selects RX8 yX8_done yX8_done, Cond.code yX8_done cX8_done 2 (some .int)]
def wsX8_sift : List Cond := .code yX8_sift cX8_sift 12 (some .int) :: ((wsX8_sift_r1 ++ (wsX8_sift_r2 ++ wsX8_sift_r3)) ++ wsX80)
def wsX8_castReal : List Cond := .code yX8_castReal cX8_castReal 3 (some .long) :: ([.methodLink RX8 152 yJxf58ca_floatToIntBits_5c35a, .static yJxf58ca_floatToIntBits_5c35a, .initialized RJxf58ca, .code yJxf58ca_floatToIntBits_5c35a cJxf58ca_floatToIntBits_5c35a 1 (some .int), .methodLink RJxf58ca 74 ⟨"java/lang/Float", "floatToRawIntBits", "(F)I"⟩, .native ⟨"java/lang/Float", "floatToRawIntBits", "(F)I"⟩, .static ⟨"java/lang/Float", "floatToRawIntBits", "(F)I"⟩, .initialized "java/lang/Float", .constant RJxf58ca 77 (2143289344), .methodLink RJxf58ca 59 yJxf58ca_isNaN_12338, .static yJxf58ca_isNaN_12338, .code yJxf58ca_isNaN_12338 cJxf58ca_isNaN_12338 1 (some .boolean), .methodLink RX8 148 yJxe99ae_doubleToLongBits_ccdee, .static yJxe99ae_doubleToLongBits_ccdee, .initialized RJxe99ae, .code yJxe99ae_doubleToLongBits_ccdee cJxe99ae_doubleToLongBits_ccdee 2 (some .long), .methodLink RJxe99ae 134 ⟨"java/lang/Double", "doubleToRawLongBits", "(D)J"⟩, .native ⟨"java/lang/Double", "doubleToRawLongBits", "(D)J"⟩, .static ⟨"java/lang/Double", "doubleToRawLongBits", "(D)J"⟩, .initialized "java/lang/Double", .constantLong RJxe99ae 137 (9221120237041090560), .methodLink RJxe99ae 122 yJxe99ae_isNaN_b9ae7, .static yJxe99ae_isNaN_b9ae7, .code yJxe99ae_isNaN_b9ae7 cJxe99ae_isNaN_b9ae7 2 (some .boolean)])
def wsX8_castWhole : List Cond := .code yX8_castWhole cX8_castWhole 3 (some .long) :: ([.methodLink RX8 152 yJxf58ca_floatToIntBits_5c35a, .static yJxf58ca_floatToIntBits_5c35a, .initialized RJxf58ca, .code yJxf58ca_floatToIntBits_5c35a cJxf58ca_floatToIntBits_5c35a 1 (some .int), .methodLink RJxf58ca 74 ⟨"java/lang/Float", "floatToRawIntBits", "(F)I"⟩, .native ⟨"java/lang/Float", "floatToRawIntBits", "(F)I"⟩, .static ⟨"java/lang/Float", "floatToRawIntBits", "(F)I"⟩, .initialized "java/lang/Float", .constant RJxf58ca 77 (2143289344), .methodLink RJxf58ca 59 yJxf58ca_isNaN_12338, .static yJxf58ca_isNaN_12338, .code yJxf58ca_isNaN_12338 cJxf58ca_isNaN_12338 1 (some .boolean), .methodLink RX8 148 yJxe99ae_doubleToLongBits_ccdee, .static yJxe99ae_doubleToLongBits_ccdee, .initialized RJxe99ae, .code yJxe99ae_doubleToLongBits_ccdee cJxe99ae_doubleToLongBits_ccdee 2 (some .long), .methodLink RJxe99ae 134 ⟨"java/lang/Double", "doubleToRawLongBits", "(D)J"⟩, .native ⟨"java/lang/Double", "doubleToRawLongBits", "(D)J"⟩, .static ⟨"java/lang/Double", "doubleToRawLongBits", "(D)J"⟩, .initialized "java/lang/Double", .constantLong RJxe99ae 137 (9221120237041090560), .methodLink RJxe99ae 122 yJxe99ae_isNaN_b9ae7, .static yJxe99ae_isNaN_b9ae7, .code yJxe99ae_isNaN_b9ae7 cJxe99ae_isNaN_b9ae7 2 (some .boolean)])
def wsX8_cast_r1 : List Cond := [Cond.constantLong RX8 184 (3), Cond.fieldLink RX8 202 "OrreryDialsModel" "seen" "J", Cond.methodLink RX8 100 yX8_in, Cond.static yX8_in, Cond.initialized RX8, Cond.code yX8_in cX8_in 6 (some .boolean), Cond.methodLink RX8 206 yX8_isNone, Cond.static yX8_isNone, Cond.code yX8_isNone cX8_isNone 3 (some .boolean), Cond.constant RX8 79 (2147483647), Cond.constant RX8 69 (2139095040), Cond.constantLong RX8 80 (9223372036854775807), Cond.constantLong RX8 70 (9218868437227405312), Cond.methodLink RX8 209 yX8_castWhole, Cond.static yX8_castWhole, Cond.code yX8_castWhole cX8_castWhole 3 (some .long), Cond.methodLink RX8 152 yJxf58ca_floatToIntBits_5c35a, Cond.static yJxf58ca_floatToIntBits_5c35a, Cond.initialized RJxf58ca, Cond.code yJxf58ca_floatToIntBits_5c35a cJxf58ca_floatToIntBits_5c35a 1 (some .int), Cond.methodLink RJxf58ca 74 ⟨"java/lang/Float", "floatToRawIntBits", "(F)I"⟩, Cond.native ⟨"java/lang/Float", "floatToRawIntBits", "(F)I"⟩, Cond.static ⟨"java/lang/Float", "floatToRawIntBits", "(F)I"⟩, Cond.initialized "java/lang/Float"]
def wsX8_cast_r2 : List Cond := [Cond.constant RJxf58ca 77 (2143289344), Cond.methodLink RJxf58ca 59 yJxf58ca_isNaN_12338, Cond.static yJxf58ca_isNaN_12338, Cond.code yJxf58ca_isNaN_12338 cJxf58ca_isNaN_12338 1 (some .boolean), Cond.methodLink RX8 148 yJxe99ae_doubleToLongBits_ccdee, Cond.static yJxe99ae_doubleToLongBits_ccdee, Cond.initialized RJxe99ae, Cond.code yJxe99ae_doubleToLongBits_ccdee cJxe99ae_doubleToLongBits_ccdee 2 (some .long), Cond.methodLink RJxe99ae 134 ⟨"java/lang/Double", "doubleToRawLongBits", "(D)J"⟩, Cond.native ⟨"java/lang/Double", "doubleToRawLongBits", "(D)J"⟩, Cond.static ⟨"java/lang/Double", "doubleToRawLongBits", "(D)J"⟩, Cond.initialized "java/lang/Double", Cond.constantLong RJxe99ae 137 (9221120237041090560), Cond.methodLink RJxe99ae 122 yJxe99ae_isNaN_b9ae7, Cond.static yJxe99ae_isNaN_b9ae7, Cond.code yJxe99ae_isNaN_b9ae7 cJxe99ae_isNaN_b9ae7 2 (some .boolean), Cond.methodLink RX8 111 yX8_floatOf, Cond.static yX8_floatOf, Cond.code yX8_floatOf cX8_floatOf 2 (some .float), Cond.methodLink RX8 88 ⟨"java/lang/Float", "intBitsToFloat", "(I)F"⟩, Cond.native ⟨"java/lang/Float", "intBitsToFloat", "(I)F"⟩, Cond.static ⟨"java/lang/Float", "intBitsToFloat", "(I)F"⟩, Cond.methodLink RX8 108 yX8_doubleOf, Cond.static yX8_doubleOf]
def wsX8_cast_r3 : List Cond := [Cond.code yX8_doubleOf cX8_doubleOf 2 (some .double), Cond.methodLink RX8 94 ⟨"java/lang/Double", "longBitsToDouble", "(J)D"⟩, Cond.native ⟨"java/lang/Double", "longBitsToDouble", "(J)D"⟩, Cond.static ⟨"java/lang/Double", "longBitsToDouble", "(J)D"⟩, Cond.methodLink RX8 213 yX8_castReal, Cond.static yX8_castReal, Cond.code yX8_castReal cX8_castReal 3 (some .long)]
def wsX8_cast : List Cond := .code yX8_cast cX8_cast 5 (some .int) :: ((wsX8_cast_r1 ++ (wsX8_cast_r2 ++ wsX8_cast_r3)) ++ wsX80)
def wsX8_left_r1 : List Cond := [Cond.fieldLink RX8 202 "OrreryDialsModel" "seen" "J", Cond.methodLink RX8 206 yX8_isNone, Cond.static yX8_isNone, Cond.initialized RX8, Cond.code yX8_isNone cX8_isNone 3 (some .boolean), Cond.constant RX8 79 (2147483647), Cond.constant RX8 69 (2139095040), Cond.constantLong RX8 80 (9223372036854775807), Cond.constantLong RX8 70 (9218868437227405312), Cond.methodLink RX8 104 yX8_isFit, Cond.static yX8_isFit, Cond.code yX8_isFit cX8_isFit 3 (some .boolean), Cond.methodLink RX8 72 yX8_isFitDouble, Cond.static yX8_isFitDouble, Cond.code yX8_isFitDouble cX8_isFitDouble 2 (some .boolean), Cond.methodLink RX8 76 yX8_isFitFloat, Cond.static yX8_isFitFloat, Cond.code yX8_isFitFloat cX8_isFitFloat 2 (some .boolean), Cond.methodLink RX8 108 yX8_doubleOf, Cond.static yX8_doubleOf, Cond.code yX8_doubleOf cX8_doubleOf 2 (some .double), Cond.methodLink RX8 94 ⟨"java/lang/Double", "longBitsToDouble", "(J)D"⟩, Cond.native ⟨"java/lang/Double", "longBitsToDouble", "(J)D"⟩, Cond.static ⟨"java/lang/Double", "longBitsToDouble", "(J)D"⟩]
def wsX8_left_r2 : List Cond := [Cond.initialized "java/lang/Double", Cond.methodLink RX8 111 yX8_floatOf, Cond.static yX8_floatOf, Cond.code yX8_floatOf cX8_floatOf 2 (some .float), Cond.methodLink RX8 88 ⟨"java/lang/Float", "intBitsToFloat", "(I)F"⟩, Cond.native ⟨"java/lang/Float", "intBitsToFloat", "(I)F"⟩, Cond.static ⟨"java/lang/Float", "intBitsToFloat", "(I)F"⟩, Cond.initialized "java/lang/Float", Cond.methodLink RX8 148 yJxe99ae_doubleToLongBits_ccdee, Cond.static yJxe99ae_doubleToLongBits_ccdee, Cond.initialized RJxe99ae, Cond.code yJxe99ae_doubleToLongBits_ccdee cJxe99ae_doubleToLongBits_ccdee 2 (some .long), Cond.methodLink RJxe99ae 134 ⟨"java/lang/Double", "doubleToRawLongBits", "(D)J"⟩, Cond.native ⟨"java/lang/Double", "doubleToRawLongBits", "(D)J"⟩, Cond.static ⟨"java/lang/Double", "doubleToRawLongBits", "(D)J"⟩, Cond.constantLong RJxe99ae 137 (9221120237041090560), Cond.methodLink RJxe99ae 122 yJxe99ae_isNaN_b9ae7, Cond.static yJxe99ae_isNaN_b9ae7, Cond.code yJxe99ae_isNaN_b9ae7 cJxe99ae_isNaN_b9ae7 2 (some .boolean), Cond.methodLink RX8 152 yJxf58ca_floatToIntBits_5c35a, Cond.static yJxf58ca_floatToIntBits_5c35a, Cond.initialized RJxf58ca, Cond.code yJxf58ca_floatToIntBits_5c35a cJxf58ca_floatToIntBits_5c35a 1 (some .int), Cond.methodLink RJxf58ca 74 ⟨"java/lang/Float", "floatToRawIntBits", "(F)I"⟩]
def wsX8_left_r3 : List Cond := [Cond.native ⟨"java/lang/Float", "floatToRawIntBits", "(F)I"⟩, Cond.static ⟨"java/lang/Float", "floatToRawIntBits", "(F)I"⟩, Cond.constant RJxf58ca 77 (2143289344), Cond.methodLink RJxf58ca 59 yJxf58ca_isNaN_12338, Cond.static yJxf58ca_isNaN_12338, Cond.code yJxf58ca_isNaN_12338 cJxf58ca_isNaN_12338 1 (some .boolean)]
def wsX8_left : List Cond := .code yX8_left cX8_left 7 (some .int) :: ((wsX8_left_r1 ++ (wsX8_left_r2 ++ wsX8_left_r3)) ++ wsX80)
def wsX8_failed : List Cond := .code yX8_failed cX8_failed 1 (some .int) :: ([.fieldLink RX8 66 "OrreryDialsModel" "failed" "I"] ++ wsX80)
def wsX8_about : List Cond := .code yX8_about cX8_about 2 (some .int) :: ([.fieldLink RX8 62 "OrreryDialsModel" "dials" "I", .fieldLink RX8 156 "OrreryDialsModel" "drives" "I", .constantLong RX8 161 (2), .constantLong RX8 217 (6), .fieldLink RX8 59 "OrreryDialsModel" "counts" "[I", .methodLink RX8 100 yX8_in, .static yX8_in, .initialized RX8, .code yX8_in cX8_in 6 (some .boolean)] ++ wsX80)
def wsJ9_abs_067f4 : List Cond := .code yJ9_abs_067f4 cJ9_abs_067f4 2 (some .long) :: ([])
def wsJ9_max_7cf53 : List Cond := .code yJ9_max_7cf53 cJ9_max_7cf53 2 (some .int) :: ([])
def wsJ9_max_f86c9 : List Cond := .code yJ9_max_f86c9 cJ9_max_f86c9 4 (some .long) :: ([])
def wsJ9_min_7cf53 : List Cond := .code yJ9_min_7cf53 cJ9_min_7cf53 2 (some .int) :: ([])
def wsJ9_min_f86c9 : List Cond := .code yJ9_min_f86c9 cJ9_min_f86c9 4 (some .long) :: ([])
def wsL_law_r1 : List Cond := [Cond.classLink RL 7 RX7, Cond.instantiable RX7 10, Cond.initialized RX7, Cond.classLink RL 10 RX8, Cond.instantiable RX8 20, Cond.initialized RX8, Cond.constantLong RL 13 (4294967295), Cond.methodLink RL 9 yX7_init, Cond.instanceMethod yX7_init, Cond.code yX7_init cX7_init 2 none, Cond.methodLink RX7 1 objectInit, Cond.instanceMethod objectInit, Cond.code objectInit ⟨#[0xb1]⟩ 1 none, Cond.classLink RX7 9 RX1, Cond.fieldLink RX7 11 "OrreryDials" "dials" "[LOrreryDials$Dial;", Cond.fieldLink RX7 15 "OrreryDials" "dialCount" "I", Cond.classLink RX7 19 RX2, Cond.fieldLink RX7 21 "OrreryDials" "drives" "[LOrreryDials$Drive;", Cond.fieldLink RX7 25 "OrreryDials" "driveCount" "I", Cond.fieldLink RX7 28 "OrreryDials" "slots" "[LOrreryDials$Drive;", Cond.fieldLink RX7 31 "OrreryDials" "shaftPlaces" "[LOrreryDials$Drive;", Cond.classLink RX7 34 RX5, Cond.fieldLink RX7 36 "OrreryDials" "rows" "[LOrreryDials$Row;", Cond.fieldLink RX7 40 "OrreryDials" "seenBits" "J"]
def wsL_law_r2 : List Cond := [Cond.fieldLink RX7 44 "OrreryDials" "latestFailure" "I", Cond.arrayClass .int, Cond.fieldLink RX7 47 "OrreryDials" "failureCounts" "[I", Cond.instantiable RX5 2, Cond.initialized RX5, Cond.instanceMethod yX5_init, Cond.code yX5_init cX5_init 1 none, Cond.methodLink RX5 3 objectInit, Cond.arrayClass .long, Cond.fieldLink RX5 9 "OrreryDials$Row" "places" "[J", Cond.fieldLink RX5 15 "OrreryDials$Row" "size" "I", Cond.methodLink RL 12 yX8_init, Cond.instanceMethod yX8_init, Cond.code yX8_init cX8_init 1 none, Cond.methodLink RX8 1 objectInit, Cond.arrayClass .boolean, Cond.fieldLink RX8 7 "OrreryDialsModel" "isFine" "[Z", Cond.arrayClass .float, Cond.fieldLink RX8 13 "OrreryDialsModel" "rimF" "[F", Cond.fieldLink RX8 17 "OrreryDialsModel" "placeF" "[F", Cond.arrayClass .double, Cond.fieldLink RX8 20 "OrreryDialsModel" "rimD" "[D", Cond.fieldLink RX8 24 "OrreryDialsModel" "placeD" "[D", Cond.fieldLink RX8 27 "OrreryDialsModel" "lapsOf" "[J"]
def wsL_law_r3 : List Cond := [Cond.fieldLink RX8 31 "OrreryDialsModel" "sortOf" "[I", Cond.fieldLink RX8 35 "OrreryDialsModel" "pullOf" "[D", Cond.fieldLink RX8 38 "OrreryDialsModel" "gearOf" "[I", Cond.fieldLink RX8 41 "OrreryDialsModel" "pulled" "[I", Cond.fieldLink RX8 44 "OrreryDialsModel" "slots" "[I", Cond.fieldLink RX8 47 "OrreryDialsModel" "shafts" "[I", Cond.fieldLink RX8 50 "OrreryDialsModel" "many" "[I", Cond.fieldLink RX8 53 "OrreryDialsModel" "floats" "[F", Cond.fieldLink RX8 56 "OrreryDialsModel" "doubles" "[D", Cond.fieldLink RX8 59 "OrreryDialsModel" "counts" "[I", Cond.fieldLink RX8 62 "OrreryDialsModel" "dials" "I", Cond.methodLink RL 15 yX7_dial, Cond.instanceMethod yX7_dial, Cond.selects RX7 yX7_dial yX7_dial, Cond.code yX7_dial cX7_dial 6 (some .int), Cond.instantiable RX1 4, Cond.initialized RX1, Cond.methodLink RX7 52 yX4_told, Cond.static yX4_told, Cond.initialized RX4, Cond.code yX4_told cX4_told 3 (some .long), Cond.methodLink RX7 58 yX4_isFit, Cond.static yX4_isFit, Cond.code yX4_isFit cX4_isFit 3 (some .boolean)]
def wsL_law_r4 : List Cond := [Cond.methodLink RX4 7 yX4_sizeOf, Cond.static yX4_sizeOf, Cond.code yX4_sizeOf cX4_sizeOf 3 (some .long), Cond.constantLong RX4 68 (9223372036854775807), Cond.constantLong RX4 82 (2147483647), Cond.methodLink RX4 13 yX4_endless, Cond.static yX4_endless, Cond.code yX4_endless cX4_endless 1 (some .long), Cond.constantLong RX4 86 (9218868437227405312), Cond.constantLong RX4 88 (2139095040), Cond.methodLink RX7 62 yX4_isZero, Cond.static yX4_isZero, Cond.code yX4_isZero cX4_isZero 3 (some .boolean), Cond.methodLink RX7 65 yX1_init, Cond.instanceMethod yX1_init, Cond.code yX1_init cX1_init 4 none, Cond.methodLink RX1 1 objectInit, Cond.fieldLink RX1 7 "OrreryDials$Dial" "place" "J", Cond.fieldLink RX1 13 "OrreryDials$Dial" "laps" "J", Cond.fieldLink RX1 16 "OrreryDials$Dial" "fine" "Z", Cond.fieldLink RX1 20 "OrreryDials$Dial" "rim" "J", Cond.methodLink RL 19 yX8_dial, Cond.instanceMethod yX8_dial, Cond.selects RX8 yX8_dial yX8_dial]
def wsL_law_r5 : List Cond := [Cond.code yX8_dial cX8_dial 4 (some .int), Cond.methodLink RX8 104 yX8_isFit, Cond.static yX8_isFit, Cond.code yX8_isFit cX8_isFit 3 (some .boolean), Cond.methodLink RX8 72 yX8_isFitDouble, Cond.static yX8_isFitDouble, Cond.code yX8_isFitDouble cX8_isFitDouble 2 (some .boolean), Cond.constantLong RX8 70 (9218868437227405312), Cond.methodLink RX8 76 yX8_isFitFloat, Cond.static yX8_isFitFloat, Cond.code yX8_isFitFloat cX8_isFitFloat 2 (some .boolean), Cond.constant RX8 69 (2139095040), Cond.methodLink RX8 108 yX8_doubleOf, Cond.static yX8_doubleOf, Cond.code yX8_doubleOf cX8_doubleOf 2 (some .double), Cond.methodLink RX8 94 ⟨"java/lang/Double", "longBitsToDouble", "(J)D"⟩, Cond.native ⟨"java/lang/Double", "longBitsToDouble", "(J)D"⟩, Cond.static ⟨"java/lang/Double", "longBitsToDouble", "(J)D"⟩, Cond.initialized "java/lang/Double", Cond.methodLink RX8 111 yX8_floatOf, Cond.static yX8_floatOf, Cond.code yX8_floatOf cX8_floatOf 2 (some .float), Cond.methodLink RX8 88 ⟨"java/lang/Float", "intBitsToFloat", "(I)F"⟩, Cond.native ⟨"java/lang/Float", "intBitsToFloat", "(I)F"⟩]
def wsL_law_r6 : List Cond := [Cond.static ⟨"java/lang/Float", "intBitsToFloat", "(I)F"⟩, Cond.initialized "java/lang/Float", Cond.methodLink RL 20 yX7_turn, Cond.instanceMethod yX7_turn, Cond.selects RX7 yX7_turn yX7_turn, Cond.code yX7_turn cX7_turn 7 (some .int), Cond.fieldLink RX7 72 "OrreryDials$Dial" "fine" "Z", Cond.methodLink RX7 68 yX7_dialAt, Cond.instanceMethod yX7_dialAt, Cond.selects RX7 yX7_dialAt yX7_dialAt, Cond.code yX7_dialAt cX7_dialAt 2 (some (.object "OrreryDials$Dial")), Cond.methodLink RX7 76 yX1_turnBy, Cond.instanceMethod yX1_turnBy, Cond.selects RX1 yX1_turnBy yX1_turnBy, Cond.code yX1_turnBy cX1_turnBy 5 (some .boolean), Cond.methodLink RX1 23 yX4_sum, Cond.static yX4_sum, Cond.code yX4_sum cX4_sum 19 (some .long), Cond.methodLink RX4 21 yX4_mantissa, Cond.static yX4_mantissa, Cond.code yX4_mantissa cX4_mantissa 7 (some .long), Cond.methodLink RX4 74 yX4_width, Cond.static yX4_width, Cond.code yX4_width cX4_width 1 (some .int)]
def wsL_law_r7 : List Cond := [Cond.methodLink RX4 24 yX4_exponent, Cond.static yX4_exponent, Cond.code yX4_exponent cX4_exponent 4 (some .int), Cond.methodLink RX4 57 Lib.Math.max.name, Cond.static Lib.Math.max.name, Cond.initialized "java/lang/Math", Cond.code Lib.Math.max.name Lib.Math.max.code 2 (some .int), Cond.methodLink RX4 70 yX4_leastExponent, Cond.static yX4_leastExponent, Cond.code yX4_leastExponent cX4_leastExponent 1 (some .int), Cond.methodLink RX4 28 yX4_shiftedOut, Cond.static yX4_shiftedOut, Cond.code yX4_shiftedOut cX4_shiftedOut 3 (some .long), Cond.methodLink RX4 44 yX4_withMore, Cond.static yX4_withMore, Cond.code yX4_withMore cX4_withMore 4 (some .long), Cond.methodLink RX4 32 yX4_nearest, Cond.static yX4_nearest, Cond.code yX4_nearest cX4_nearest 13 (some .long), Cond.methodLink RX4 36 yX4_signed, Cond.static yX4_signed, Cond.code yX4_signed cX4_signed 6 (some .long), Cond.constantLong RX4 19 (-9223372036854775808), Cond.constantLong RX4 84 (-2147483648)]
def wsL_law_r8 : List Cond := [Cond.methodLink RX4 40 yX4_lengthOf, Cond.static yX4_lengthOf, Cond.code yX4_lengthOf cX4_lengthOf 2 (some .int), Cond.methodLink RX4 54 yJ13_numberOfLeadingZeros_95d88, Cond.static yJ13_numberOfLeadingZeros_95d88, Cond.initialized RJ13, Cond.code yJ13_numberOfLeadingZeros_95d88 cJ13_numberOfLeadingZeros_95d88 3 (some .int), Cond.methodLink RJ13 308 yJ6_numberOfLeadingZeros_0f7a4, Cond.static yJ6_numberOfLeadingZeros_0f7a4, Cond.initialized RJ6, Cond.code yJ6_numberOfLeadingZeros_0f7a4 cJ6_numberOfLeadingZeros_0f7a4 2 (some .int), Cond.constant RJ6 264 (65536), Cond.methodLink RX4 77 yX4_rounded, Cond.static yX4_rounded, Cond.code yX4_rounded cX4_rounded 10 (some .long), Cond.methodLink RX1 29 yX4_isFit, Cond.methodLink RX1 33 yX4_quotient, Cond.static yX4_quotient, Cond.code yX4_quotient cX4_quotient 17 (some .long), Cond.methodLink RX1 36 yX4_cutToLong, Cond.static yX4_cutToLong, Cond.code yX4_cutToLong cX4_cutToLong 8 (some .long), Cond.methodLink RX1 40 yX4_leftOver, Cond.static yX4_leftOver]
def wsL_law_r9 : List Cond := [Cond.code yX4_leftOver cX4_leftOver 11 (some .long), Cond.methodLink RX4 61 Lib.Math.min.name, Cond.static Lib.Math.min.name, Cond.code Lib.Math.min.name Lib.Math.min.code 2 (some .int), Cond.methodLink RX7 80 yX7_done, Cond.instanceMethod yX7_done, Cond.selects RX7 yX7_done yX7_done, Cond.code yX7_done cX7_done 2 (some .int), Cond.methodLink RX7 84 yX7_failWith, Cond.instanceMethod yX7_failWith, Cond.selects RX7 yX7_failWith yX7_failWith, Cond.code yX7_failWith cX7_failWith 3 (some .int), Cond.methodLink RL 24 yX8_turn, Cond.instanceMethod yX8_turn, Cond.selects RX8 yX8_turn yX8_turn, Cond.code yX8_turn cX8_turn 4 (some .int), Cond.methodLink RX8 131 yX8_isDial, Cond.instanceMethod yX8_isDial, Cond.selects RX8 yX8_isDial yX8_isDial, Cond.code yX8_isDial cX8_isDial 2 (some .boolean), Cond.methodLink RX8 100 yX8_in, Cond.static yX8_in, Cond.code yX8_in cX8_in 6 (some .boolean), Cond.methodLink RX8 135 yX8_goes]
def wsL_law_r10 : List Cond := [Cond.instanceMethod yX8_goes, Cond.selects RX8 yX8_goes yX8_goes, Cond.code yX8_goes cX8_goes 4 (some .boolean), Cond.methodLink RX8 123 yX8_goesDouble, Cond.instanceMethod yX8_goesDouble, Cond.selects RX8 yX8_goesDouble yX8_goesDouble, Cond.code yX8_goesDouble cX8_goesDouble 6 (some .boolean), Cond.methodLink RX8 119 yX8_isEndless, Cond.static yX8_isEndless, Cond.code yX8_isEndless cX8_isEndless 2 (some .boolean), Cond.constantDouble RX8 82 (9218868437227405311), Cond.constantDouble RX8 84 (18442240474082181119), Cond.methodLink RX8 127 yX8_goesFloat, Cond.instanceMethod yX8_goesFloat, Cond.selects RX8 yX8_goesFloat yX8_goesFloat, Cond.code yX8_goesFloat cX8_goesFloat 4 (some .boolean), Cond.methodLink RX8 115 yX8_isEndlessFloat, Cond.static yX8_isEndlessFloat, Cond.code yX8_isEndlessFloat cX8_isEndlessFloat 1 (some .boolean), Cond.constantFloat RX8 86 (2139095039), Cond.constantFloat RX8 87 (4286578687), Cond.methodLink RX8 139 yX8_done, Cond.instanceMethod yX8_done, Cond.selects RX8 yX8_done yX8_done]
def wsL_law_r11 : List Cond := [Cond.code yX8_done cX8_done 2 (some .int), Cond.fieldLink RX8 66 "OrreryDialsModel" "failed" "I", Cond.methodLink RX8 143 yX8_fails, Cond.instanceMethod yX8_fails, Cond.selects RX8 yX8_fails yX8_fails, Cond.code yX8_fails cX8_fails 2 (some .int), Cond.methodLink RL 25 yX7_spin, Cond.instanceMethod yX7_spin, Cond.selects RX7 yX7_spin yX7_spin, Cond.code yX7_spin cX7_spin 9 (some .int), Cond.methodLink RL 29 yX8_spin, Cond.instanceMethod yX8_spin, Cond.selects RX8 yX8_spin yX8_spin, Cond.code yX8_spin cX8_spin 7 (some .int), Cond.constantLong RX8 146 (40), Cond.methodLink RL 30 yX7_place, Cond.instanceMethod yX7_place, Cond.selects RX7 yX7_place yX7_place, Cond.code yX7_place cX7_place 4 (some .long), Cond.fieldLink RX7 87 "OrreryDials$Dial" "place" "J", Cond.fieldLink RX7 90 "OrreryDials$Dial" "rim" "J", Cond.methodLink RL 34 yX8_place, Cond.instanceMethod yX8_place, Cond.selects RX8 yX8_place yX8_place]
def wsL_law_r12 : List Cond := [Cond.code yX8_place cX8_place 3 (some .long), Cond.methodLink RX8 148 yJxe99ae_doubleToLongBits_ccdee, Cond.static yJxe99ae_doubleToLongBits_ccdee, Cond.initialized RJxe99ae, Cond.code yJxe99ae_doubleToLongBits_ccdee cJxe99ae_doubleToLongBits_ccdee 2 (some .long), Cond.methodLink RJxe99ae 134 ⟨"java/lang/Double", "doubleToRawLongBits", "(D)J"⟩, Cond.native ⟨"java/lang/Double", "doubleToRawLongBits", "(D)J"⟩, Cond.static ⟨"java/lang/Double", "doubleToRawLongBits", "(D)J"⟩, Cond.constantLong RJxe99ae 137 (9221120237041090560), Cond.methodLink RJxe99ae 122 yJxe99ae_isNaN_b9ae7, Cond.static yJxe99ae_isNaN_b9ae7, Cond.code yJxe99ae_isNaN_b9ae7 cJxe99ae_isNaN_b9ae7 2 (some .boolean), Cond.methodLink RX8 152 yJxf58ca_floatToIntBits_5c35a, Cond.static yJxf58ca_floatToIntBits_5c35a, Cond.initialized RJxf58ca, Cond.code yJxf58ca_floatToIntBits_5c35a cJxf58ca_floatToIntBits_5c35a 1 (some .int), Cond.methodLink RJxf58ca 74 ⟨"java/lang/Float", "floatToRawIntBits", "(F)I"⟩, Cond.native ⟨"java/lang/Float", "floatToRawIntBits", "(F)I"⟩, Cond.static ⟨"java/lang/Float", "floatToRawIntBits", "(F)I"⟩, Cond.constant RJxf58ca 77 (2143289344), Cond.methodLink RJxf58ca 59 yJxf58ca_isNaN_12338, Cond.static yJxf58ca_isNaN_12338, Cond.code yJxf58ca_isNaN_12338 cJxf58ca_isNaN_12338 1 (some .boolean), Cond.methodLink RL 35 yX7_laps]
def wsL_law_r13 : List Cond := [Cond.instanceMethod yX7_laps, Cond.selects RX7 yX7_laps yX7_laps, Cond.code yX7_laps cX7_laps 3 (some .long), Cond.fieldLink RX7 93 "OrreryDials$Dial" "laps" "J", Cond.methodLink RL 39 yX8_laps, Cond.instanceMethod yX8_laps, Cond.selects RX8 yX8_laps yX8_laps, Cond.code yX8_laps cX8_laps 2 (some .long), Cond.methodLink RL 40 yX7_fine, Cond.instanceMethod yX7_fine, Cond.selects RX7 yX7_fine yX7_fine, Cond.code yX7_fine cX7_fine 3 (some .int), Cond.methodLink RL 44 yX8_fine, Cond.instanceMethod yX8_fine, Cond.selects RX8 yX8_fine yX8_fine, Cond.code yX8_fine cX8_fine 2 (some .int), Cond.methodLink RL 45 yX7_drive, Cond.instanceMethod yX7_drive, Cond.selects RX7 yX7_drive yX7_drive, Cond.code yX7_drive cX7_drive 4 (some .int), Cond.methodLink RX7 96 yX7_newDrive, Cond.static yX7_newDrive, Cond.code yX7_newDrive cX7_newDrive 4 (some (.object "OrreryDials$Drive")), Cond.classLink RX7 176 RX6]
def wsL_law_r14 : List Cond := [Cond.instantiable RX6 3, Cond.initialized RX6, Cond.classLink RX7 112 RX0, Cond.instantiable RX0 4, Cond.initialized RX0, Cond.classLink RX7 182 RX3, Cond.instantiable RX3 4, Cond.initialized RX3, Cond.methodLink RX7 178 yX6_init, Cond.instanceMethod yX6_init, Cond.code yX6_init cX6_init 4 none, Cond.methodLink RX6 1 yX2_init, Cond.instanceMethod yX2_init, Cond.initialized RX2, Cond.code yX2_init cX2_init 4 none, Cond.methodLink RX2 1 objectInit, Cond.fieldLink RX2 7 "OrreryDials$Drive" "pullCount" "I", Cond.fieldLink RX2 13 "OrreryDials$Drive" "number" "I", Cond.fieldLink RX2 16 "OrreryDials$Drive" "pull" "J", Cond.methodLink RX7 181 yX0_init, Cond.instanceMethod yX0_init, Cond.code yX0_init cX0_init 4 none, Cond.fieldLink RX0 7 "OrreryDials$Crank" "gear" "I", Cond.methodLink RX0 1 yX2_init]
def wsL_law_r15 : List Cond := [Cond.methodLink RX7 184 yX3_init, Cond.instanceMethod yX3_init, Cond.code yX3_init cX3_init 4 none, Cond.methodLink RX3 1 yX0_init, Cond.methodLink RL 48 yX8_drive, Cond.instanceMethod yX8_drive, Cond.selects RX8 yX8_drive yX8_drive, Cond.code yX8_drive cX8_drive 4 (some .int), Cond.constantLong RX8 161 (2), Cond.fieldLink RX8 156 "OrreryDialsModel" "drives" "I", Cond.methodLink RL 49 yX7_fit, Cond.instanceMethod yX7_fit, Cond.selects RX7 yX7_fit yX7_fit, Cond.code yX7_fit cX7_fit 4 (some .int), Cond.methodLink RX7 100 yX7_driveAt, Cond.instanceMethod yX7_driveAt, Cond.selects RX7 yX7_driveAt yX7_driveAt, Cond.code yX7_driveAt cX7_driveAt 2 (some (.object "OrreryDials$Drive")), Cond.methodLink RX7 104 yX7_isSlot, Cond.static yX7_isSlot, Cond.code yX7_isSlot cX7_isSlot 1 (some .boolean), Cond.methodLink RL 53 yX8_fit, Cond.instanceMethod yX8_fit, Cond.selects RX8 yX8_fit yX8_fit]
def wsL_law_r16 : List Cond := [Cond.code yX8_fit cX8_fit 3 (some .int), Cond.methodLink RX8 163 yX8_isSlot, Cond.static yX8_isSlot, Cond.code yX8_isSlot cX8_isSlot 1 (some .boolean), Cond.constantLong RX8 159 (5), Cond.methodLink RX8 166 yX8_isDrive, Cond.instanceMethod yX8_isDrive, Cond.selects RX8 yX8_isDrive yX8_isDrive, Cond.code yX8_isDrive cX8_isDrive 2 (some .boolean), Cond.methodLink RL 54 yX7_pull, Cond.instanceMethod yX7_pull, Cond.selects RX7 yX7_pull yX7_pull, Cond.code yX7_pull cX7_pull 5 (some .int), Cond.methodLink RX7 108 ⟨"OrreryDials$Drive", "pullAt", "(LOrreryDials$Dial;)Z"⟩, Cond.sameMethod "OrreryDials$Drive" "OrreryDials$Drive" "pullAt" "(LOrreryDials$Dial;)Z", Cond.selects RX0 ⟨"OrreryDials$Drive", "pullAt", "(LOrreryDials$Dial;)Z"⟩ yX2_pullAt, Cond.instanceMethod yX2_pullAt, Cond.code yX2_pullAt cX2_pullAt 6 (some .boolean), Cond.fieldLink RX2 20 "OrreryDials$Dial" "fine" "Z", Cond.fieldLink RX2 26 "OrreryDials$Dial" "place" "J", Cond.methodLink RX2 29 yX4_ofReal, Cond.static yX4_ofReal, Cond.code yX4_ofReal cX4_ofReal 4 (some .long), Cond.methodLink RX4 64 yX4_isFit]
def wsL_law_r17 : List Cond := [Cond.methodLink RX2 35 ⟨"OrreryDials$Drive", "forceAt", "(J)J"⟩, Cond.sameMethod "OrreryDials$Drive" "OrreryDials$Drive" "forceAt" "(J)J", Cond.selects RX0 ⟨"OrreryDials$Drive", "forceAt", "(J)J"⟩ yX0_forceAt, Cond.instanceMethod yX0_forceAt, Cond.code yX0_forceAt cX0_forceAt 3 (some .long), Cond.fieldLink RX0 13 "OrreryDials$Crank" "pull" "J", Cond.sameField "OrreryDials$Crank" "OrreryDials$Drive" "pull" "J", Cond.methodLink RX0 17 yX4_timesInt, Cond.static yX4_timesInt, Cond.code yX4_timesInt cX4_timesInt 4 (some .long), Cond.methodLink RX4 48 Lib.MathLoose.abs_long.x, Cond.static Lib.MathLoose.abs_long.x, Cond.code Lib.MathLoose.abs_long.x Lib.MathLoose.abs_long.code 2 (some .long), Cond.selects RX3 ⟨"OrreryDials$Drive", "forceAt", "(J)J"⟩ yX3_forceAt, Cond.instanceMethod yX3_forceAt, Cond.code yX3_forceAt cX3_forceAt 7 (some .long), Cond.fieldLink RX3 7 "OrreryDials$Flywheel" "pull" "J", Cond.sameField "OrreryDials$Flywheel" "OrreryDials$Drive" "pull" "J", Cond.fieldLink RX3 13 "OrreryDials$Flywheel" "gear" "I", Cond.sameField "OrreryDials$Flywheel" "OrreryDials$Crank" "gear" "I", Cond.fieldLink RX3 27 "OrreryDials$Flywheel" "pullCount" "I", Cond.sameField "OrreryDials$Flywheel" "OrreryDials$Drive" "pullCount" "I", Cond.methodLink RX3 17 yX4_timesInt, Cond.methodLink RX3 23 yX4_isFit]
def wsL_law_r18 : List Cond := [Cond.methodLink RX3 30 yX4_sum, Cond.selects RX6 ⟨"OrreryDials$Drive", "forceAt", "(J)J"⟩ yX6_forceAt, Cond.instanceMethod yX6_forceAt, Cond.code yX6_forceAt cX6_forceAt 3 (some .long), Cond.fieldLink RX6 7 "OrreryDials$Spring" "pull" "J", Cond.sameField "OrreryDials$Spring" "OrreryDials$Drive" "pull" "J", Cond.methodLink RX6 13 yX4_negated, Cond.static yX4_negated, Cond.code yX4_negated cX4_negated 2 (some .long), Cond.methodLink RX6 19 yX4_sum, Cond.methodLink RX2 39 yX4_isFit, Cond.methodLink RX2 43 yX1_turnBy, Cond.selects RX3 ⟨"OrreryDials$Drive", "pullAt", "(LOrreryDials$Dial;)Z"⟩ yX2_pullAt, Cond.selects RX6 ⟨"OrreryDials$Drive", "pullAt", "(LOrreryDials$Dial;)Z"⟩ yX2_pullAt, Cond.methodLink RL 57 yX8_pull, Cond.instanceMethod yX8_pull, Cond.selects RX8 yX8_pull yX8_pull, Cond.code yX8_pull cX8_pull 4 (some .int), Cond.methodLink RX8 173 yX8_pullCause, Cond.instanceMethod yX8_pullCause, Cond.selects RX8 yX8_pullCause yX8_pullCause, Cond.code yX8_pullCause cX8_pullCause 3 (some .int), Cond.methodLink RX8 169 yX8_hauls, Cond.instanceMethod yX8_hauls]
def wsL_law_r19 : List Cond := [Cond.selects RX8 yX8_hauls yX8_hauls, Cond.code yX8_hauls cX8_hauls 12 (some .boolean), Cond.methodLink RL 58 yX7_gear, Cond.instanceMethod yX7_gear, Cond.selects RX7 yX7_gear yX7_gear, Cond.code yX7_gear cX7_gear 6 (some .int), Cond.classLink RX7 112 "OrreryDials$Crank", Cond.fieldLink RX7 114 "OrreryDials$Crank" "gear" "I", Cond.methodLink RL 61 yX8_gear, Cond.instanceMethod yX8_gear, Cond.selects RX8 yX8_gear yX8_gear, Cond.code yX8_gear cX8_gear 5 (some .int), Cond.constantLong RX8 177 (-1000), Cond.constantLong RX8 179 (1000), Cond.methodLink RL 62 yX7_lay, Cond.instanceMethod yX7_lay, Cond.selects RX7 yX7_lay yX7_lay, Cond.code yX7_lay cX7_lay 5 (some .int), Cond.methodLink RX7 117 yX7_isShaft, Cond.static yX7_isShaft, Cond.code yX7_isShaft cX7_isShaft 1 (some .boolean), Cond.methodLink RX7 120 yX7_isShaftPlace, Cond.static yX7_isShaftPlace, Cond.code yX7_isShaftPlace cX7_isShaftPlace 1 (some .boolean)]
def wsL_law_r20 : List Cond := [Cond.methodLink RL 66 yX8_lay, Cond.instanceMethod yX8_lay, Cond.selects RX8 yX8_lay yX8_lay, Cond.code yX8_lay cX8_lay 5 (some .int), Cond.constantLong RX8 184 (3), Cond.methodLink RX8 181 yX8_isShaft, Cond.static yX8_isShaft, Cond.code yX8_isShaft cX8_isShaft 1 (some .boolean), Cond.methodLink RL 67 yX7_wind, Cond.instanceMethod yX7_wind, Cond.selects RX7 yX7_wind yX7_wind, Cond.code yX7_wind cX7_wind 6 (some .int), Cond.methodLink RL 70 yX8_wind, Cond.instanceMethod yX8_wind, Cond.selects RX8 yX8_wind yX8_wind, Cond.code yX8_wind cX8_wind 5 (some .int), Cond.methodLink RL 71 yX7_laid, Cond.instanceMethod yX7_laid, Cond.selects RX7 yX7_laid yX7_laid, Cond.code yX7_laid cX7_laid 4 (some .int), Cond.fieldLink RX7 123 "OrreryDials$Drive" "number" "I", Cond.methodLink RL 74 yX8_laid, Cond.instanceMethod yX8_laid, Cond.selects RX8 yX8_laid yX8_laid]
def wsL_law_r21 : List Cond := [Cond.code yX8_laid cX8_laid 3 (some .int), Cond.methodLink RL 75 yX7_pulls, Cond.instanceMethod yX7_pulls, Cond.selects RX7 yX7_pulls yX7_pulls, Cond.code yX7_pulls cX7_pulls 3 (some .int), Cond.fieldLink RX7 126 "OrreryDials$Drive" "pullCount" "I", Cond.methodLink RL 78 yX8_pulls, Cond.instanceMethod yX8_pulls, Cond.selects RX8 yX8_pulls yX8_pulls, Cond.code yX8_pulls cX8_pulls 2 (some .int), Cond.methodLink RL 79 yX7_log, Cond.instanceMethod yX7_log, Cond.selects RX7 yX7_log yX7_log, Cond.code yX7_log cX7_log 5 (some .int), Cond.methodLink RX7 129 yX7_rowAt, Cond.instanceMethod yX7_rowAt, Cond.selects RX7 yX7_rowAt yX7_rowAt, Cond.code yX7_rowAt cX7_rowAt 3 (some (.object "OrreryDials$Row")), Cond.methodLink RX7 133 yX5_renew, Cond.instanceMethod yX5_renew, Cond.selects RX5 yX5_renew yX5_renew, Cond.code yX5_renew cX5_renew 3 none, Cond.methodLink RL 83 yX8_log, Cond.instanceMethod yX8_log]
def wsL_law_r22 : List Cond := [Cond.selects RX8 yX8_log yX8_log, Cond.code yX8_log cX8_log 5 (some .int), Cond.constantLong RX8 191 (-1), Cond.constantLong RX8 193 (16), Cond.methodLink RX8 188 yX8_isLog, Cond.static yX8_isLog, Cond.code yX8_isLog cX8_isLog 1 (some .boolean), Cond.constantLong RX8 186 (7), Cond.methodLink RX8 195 yX8_rowOf, Cond.static yX8_rowOf, Cond.code yX8_rowOf cX8_rowOf 2 (some .int), Cond.methodLink RL 84 yX7_write, Cond.instanceMethod yX7_write, Cond.selects RX7 yX7_write yX7_write, Cond.code yX7_write cX7_write 10 (some .int), Cond.fieldLink RX7 140 "OrreryDials$Row" "places" "[J", Cond.methodLink RX7 137 yX5_failureAt, Cond.instanceMethod yX5_failureAt, Cond.selects RX5 yX5_failureAt yX5_failureAt, Cond.code yX5_failureAt cX5_failureAt 2 (some .int), Cond.methodLink RX5 19 yX5_isMissing, Cond.instanceMethod yX5_isMissing, Cond.selects RX5 yX5_isMissing yX5_isMissing, Cond.code yX5_isMissing cX5_isMissing 1 (some .boolean)]
def wsL_law_r23 : List Cond := [Cond.methodLink RL 88 yX8_write, Cond.instanceMethod yX8_write, Cond.selects RX8 yX8_write yX8_write, Cond.code yX8_write cX8_write 7 (some .int), Cond.methodLink RX8 199 yX8_cause, Cond.instanceMethod yX8_cause, Cond.selects RX8 yX8_cause yX8_cause, Cond.code yX8_cause cX8_cause 3 (some .int), Cond.methodLink RL 89 yX7_read, Cond.instanceMethod yX7_read, Cond.selects RX7 yX7_read yX7_read, Cond.code yX7_read cX7_read 6 (some .int), Cond.methodLink RL 92 yX8_read, Cond.instanceMethod yX8_read, Cond.selects RX8 yX8_read yX8_read, Cond.code yX8_read cX8_read 5 (some .int), Cond.fieldLink RX8 202 "OrreryDialsModel" "seen" "J", Cond.methodLink RL 93 yX7_seen, Cond.instanceMethod yX7_seen, Cond.selects RX7 yX7_seen yX7_seen, Cond.code yX7_seen cX7_seen 1 (some .long), Cond.methodLink RL 97 yX8_seen, Cond.instanceMethod yX8_seen, Cond.selects RX8 yX8_seen yX8_seen]
def wsL_law_r24 : List Cond := [Cond.code yX8_seen cX8_seen 1 (some .long), Cond.methodLink RL 98 yX7_note, Cond.instanceMethod yX7_note, Cond.selects RX7 yX7_note yX7_note, Cond.code yX7_note cX7_note 8 (some .int), Cond.methodLink RX7 144 yX4_ofReal, Cond.methodLink RL 102 yX8_note, Cond.instanceMethod yX8_note, Cond.selects RX8 yX8_note yX8_note, Cond.code yX8_note cX8_note 6 (some .int), Cond.methodLink RL 103 yX7_recall, Cond.instanceMethod yX7_recall, Cond.selects RX7 yX7_recall yX7_recall, Cond.code yX7_recall cX7_recall 10 (some .int), Cond.methodLink RX7 148 yX4_leftOver, Cond.methodLink RL 106 yX8_recall, Cond.instanceMethod yX8_recall, Cond.selects RX8 yX8_recall yX8_recall, Cond.code yX8_recall cX8_recall 9 (some .int), Cond.methodLink RL 107 yX7_sift, Cond.instanceMethod yX7_sift, Cond.selects RX7 yX7_sift yX7_sift, Cond.code yX7_sift cX7_sift 10 (some .int), Cond.fieldLink RX7 156 "OrreryDials$Row" "size" "I"]
def wsL_law_r25 : List Cond := [Cond.methodLink RX7 152 yX5_isMissing, Cond.methodLink RL 111 yX8_sift, Cond.instanceMethod yX8_sift, Cond.selects RX8 yX8_sift yX8_sift, Cond.code yX8_sift cX8_sift 12 (some .int), Cond.methodLink RL 112 yX7_cast, Cond.instanceMethod yX7_cast, Cond.selects RX7 yX7_cast yX7_cast, Cond.code yX7_cast cX7_cast 7 (some .int), Cond.methodLink RX7 159 yX7_isKind, Cond.static yX7_isKind, Cond.code yX7_isKind cX7_isKind 1 (some .boolean), Cond.methodLink RX7 162 yX7_isReal, Cond.static yX7_isReal, Cond.code yX7_isReal cX7_isReal 1 (some .boolean), Cond.methodLink RX7 165 yX4_isNumber, Cond.static yX4_isNumber, Cond.code yX4_isNumber cX4_isNumber 3 (some .boolean), Cond.methodLink RX7 168 yX7_castReal, Cond.static yX7_castReal, Cond.code yX7_castReal cX7_castReal 6 (some .long), Cond.constantLong RX7 190 (-2147483648), Cond.constantLong RX7 192 (2147483647), Cond.methodLink RX7 194 Lib.MathLoose.min_long.x]
def wsL_law_r26 : List Cond := [Cond.static Lib.MathLoose.min_long.x, Cond.code Lib.MathLoose.min_long.x Lib.MathLoose.min_long.code 4 (some .long), Cond.methodLink RX7 200 Lib.MathLoose.max_long.x, Cond.static Lib.MathLoose.max_long.x, Cond.code Lib.MathLoose.max_long.x Lib.MathLoose.max_long.code 4 (some .long), Cond.methodLink RX7 185 yX4_cutToLong, Cond.methodLink RX7 172 yX7_castWhole, Cond.static yX7_castWhole, Cond.code yX7_castWhole cX7_castWhole 3 (some .long), Cond.methodLink RX7 203 yX4_ofLong, Cond.static yX4_ofLong, Cond.code yX4_ofLong cX4_ofLong 3 (some .long), Cond.methodLink RL 116 yX8_cast, Cond.instanceMethod yX8_cast, Cond.selects RX8 yX8_cast yX8_cast, Cond.code yX8_cast cX8_cast 5 (some .int), Cond.methodLink RX8 206 yX8_isNone, Cond.static yX8_isNone, Cond.code yX8_isNone cX8_isNone 3 (some .boolean), Cond.constant RX8 79 (2147483647), Cond.constantLong RX8 80 (9223372036854775807), Cond.methodLink RX8 209 yX8_castWhole, Cond.static yX8_castWhole, Cond.code yX8_castWhole cX8_castWhole 3 (some .long)]
def wsL_law_r27 : List Cond := [Cond.methodLink RX8 213 yX8_castReal, Cond.static yX8_castReal, Cond.code yX8_castReal cX8_castReal 3 (some .long), Cond.methodLink RL 117 yX7_left, Cond.instanceMethod yX7_left, Cond.selects RX7 yX7_left yX7_left, Cond.code yX7_left cX7_left 10 (some .int), Cond.methodLink RL 121 yX8_left, Cond.instanceMethod yX8_left, Cond.selects RX8 yX8_left yX8_left, Cond.code yX8_left cX8_left 7 (some .int), Cond.methodLink RL 122 yX7_failed, Cond.instanceMethod yX7_failed, Cond.selects RX7 yX7_failed yX7_failed, Cond.code yX7_failed cX7_failed 1 (some .int), Cond.methodLink RL 126 yX8_failed, Cond.instanceMethod yX8_failed, Cond.selects RX8 yX8_failed yX8_failed, Cond.code yX8_failed cX8_failed 1 (some .int), Cond.methodLink RL 127 yX7_about, Cond.instanceMethod yX7_about, Cond.selects RX7 yX7_about yX7_about, Cond.code yX7_about cX7_about 3 (some .int), Cond.methodLink RL 130 yX8_about]
def wsL_law_r28 : List Cond := [Cond.instanceMethod yX8_about, Cond.selects RX8 yX8_about yX8_about, Cond.code yX8_about cX8_about 2 (some .int), Cond.constantLong RX8 217 (6)]
def wsL_law : List Cond := (wsL_law_r1 ++ (wsL_law_r2 ++ (wsL_law_r3 ++ (wsL_law_r4 ++ (wsL_law_r5 ++ (wsL_law_r6 ++ (wsL_law_r7 ++ (wsL_law_r8 ++ (wsL_law_r9 ++ (wsL_law_r10 ++ (wsL_law_r11 ++ (wsL_law_r12 ++ (wsL_law_r13 ++ (wsL_law_r14 ++ (wsL_law_r15 ++ (wsL_law_r16 ++ (wsL_law_r17 ++ (wsL_law_r18 ++ (wsL_law_r19 ++ (wsL_law_r20 ++ (wsL_law_r21 ++ (wsL_law_r22 ++ (wsL_law_r23 ++ (wsL_law_r24 ++ (wsL_law_r25 ++ (wsL_law_r26 ++ (wsL_law_r27 ++ wsL_law_r28))))))))))))))))))))))))))) ++ wsX70 ++ wsX80 ++ wsX50 ++ wsX10 ++ wsX60 ++ wsX00 ++ wsX30 ++ ([] : List Cond)
set_option maxRecDepth 20000 in
theorem wsL_law_in : ∀ w ∈ wsL_law, w ∈ lw_tbl := fun w h => (goodIn_p wsL_law [34, 37, 47, 468, 94, 97, 100, 103, 108, 113, 117, 537, 540, 543, 547, 551, 557, 141, 145, 149, 152, 155, 158, 161, 167, 164, 170, 173, 176, 179, 184, 187, 190, 194, 198, 201, 204, 207, 211, 215, 564, 568, 571, 575, 579, 582, 588, 591, 597, 601, 219, 605, 223, 610, 613, 616, 623, 626, 227, 634, 231, 638, 235, 238, 243, 246, 272, 288, 642, 298, 302, 305, 647, 650, 655, 309, 316, 319, 326, 329, 332, 335, 341, 344, 659, 663, 667, 351, 671, 355, 358, 361, 677, 680, 365, 685, 369, 689, 373, 693, 377, 381, 385, 697, 700, 706, 389, 393, 397, 710, 714, 401, 718, 405, 722, 409, 726, 414, 730, 419, 734, 424, 427, 430, 433, 436, 442, 445, 448, 451, 738, 741, 746, 749, 455, 753, 459, 757, 463, 761] (by decide +kernel) (by decide +kernel) w h).1
theorem inlX0 : ∀ w ∈ wsX00, w ∈ wsL_law := fun _ h => List.mem_append_left _ (List.mem_append_left _ (List.mem_append_right _ h))
theorem inX0 : ∀ w ∈ wsX00, w ∈ lw_tbl := fun w h => wsL_law_in w (inlX0 w h)
theorem inlX1 : ∀ w ∈ wsX10, w ∈ wsL_law := fun _ h => List.mem_append_left _ (List.mem_append_left _ (List.mem_append_left _ (List.mem_append_left _ (List.mem_append_right _ h))))
theorem inX1 : ∀ w ∈ wsX10, w ∈ lw_tbl := fun w h => wsL_law_in w (inlX1 w h)
theorem inX2 : ∀ w ∈ wsX20, w ∈ lw_tbl := by decide +kernel
theorem inlX3 : ∀ w ∈ wsX30, w ∈ wsL_law := fun _ h => List.mem_append_left _ (List.mem_append_right _ h)
theorem inX3 : ∀ w ∈ wsX30, w ∈ lw_tbl := fun w h => wsL_law_in w (inlX3 w h)
theorem inX4 : ∀ w ∈ wsX40, w ∈ lw_tbl := by decide +kernel
theorem inlX5 : ∀ w ∈ wsX50, w ∈ wsL_law := fun _ h => List.mem_append_left _ (List.mem_append_left _ (List.mem_append_left _ (List.mem_append_left _ (List.mem_append_left _ (List.mem_append_right _ h)))))
theorem inX5 : ∀ w ∈ wsX50, w ∈ lw_tbl := fun w h => wsL_law_in w (inlX5 w h)
theorem inlX6 : ∀ w ∈ wsX60, w ∈ wsL_law := fun _ h => List.mem_append_left _ (List.mem_append_left _ (List.mem_append_left _ (List.mem_append_right _ h)))
theorem inX6 : ∀ w ∈ wsX60, w ∈ lw_tbl := fun w h => wsL_law_in w (inlX6 w h)
theorem inlX7 : ∀ w ∈ wsX70, w ∈ wsL_law := fun _ h => List.mem_append_left _ (List.mem_append_left _ (List.mem_append_left _ (List.mem_append_left _ (List.mem_append_left _ (List.mem_append_left _ (List.mem_append_left _ (List.mem_append_right _ h)))))))
theorem inX7 : ∀ w ∈ wsX70, w ∈ lw_tbl := fun w h => wsL_law_in w (inlX7 w h)
theorem inlX8 : ∀ w ∈ wsX80, w ∈ wsL_law := fun _ h => List.mem_append_left _ (List.mem_append_left _ (List.mem_append_left _ (List.mem_append_left _ (List.mem_append_left _ (List.mem_append_left _ (List.mem_append_right _ h))))))
theorem inX8 : ∀ w ∈ wsX80, w ∈ lw_tbl := fun w h => wsL_law_in w (inlX8 w h)
theorem inJxe99ae : ∀ w ∈ wsJxe99ae0, w ∈ lw_tbl := by decide +kernel
theorem inJxf58ca : ∀ w ∈ wsJxf58ca0, w ∈ lw_tbl := by decide +kernel
theorem inJ6 : ∀ w ∈ wsJ60, w ∈ lw_tbl := by decide +kernel
theorem inJ13 : ∀ w ∈ wsJ130, w ∈ lw_tbl := by decide +kernel
theorem inJ9 : ∀ w ∈ wsJ90, w ∈ lw_tbl := by decide +kernel
abbrev vwCl : List vw_C := [(RX0, TX0, 4), (RX1, TX1, 4), (RX3, TX3, 4), (RX5, TX5, 2), (RX6, TX6, 3), (RX7, TX7, 10), (RX8, TX8, 20)]
end
section
set_option maxRecDepth 20000 in
theorem ggX0_init_X2_init : GoodIn wsX0_init wsX2_init := goodIn_r _ [5, 6, 7, 8, 9, 10, 11, 12, 13, 14, 15, 16, 17, 18, 19, 20, 21, 22] (by decide +kernel) (by decide +kernel)
set_option maxRecDepth 20000 in
theorem gX0_init_X2_init : GoodIn wsX0_init (wsX2_init) := ggX0_init_X2_init
theorem dX0_init_0 : decode cX0_init 0 = .ok (.aload_n 0, 1) := by decide +kernel
theorem dX0_init_1 : decode cX0_init 1 = .ok (.iload_n 1, 1) := by decide +kernel
theorem dX0_init_2 : decode cX0_init 2 = .ok (.lload_n 2, 1) := by decide +kernel
theorem dX0_init_3 : decode cX0_init 3 = .ok (.invokespecial 1, 3) := by decide +kernel
theorem dX0_init_6 : decode cX0_init 6 = .ok (.aload_n 0, 1) := by decide +kernel
theorem dX0_init_7 : decode cX0_init 7 = .ok (.iconst 1, 1) := by decide +kernel
theorem dX0_init_8 : decode cX0_init 8 = .ok (.putfield 7, 3) := by decide +kernel
theorem dX0_init_11 : decode cX0_init 11 = .ok (.return_, 1) := by decide +kernel
set_option maxRecDepth 20000 in
theorem ggX0_forceAt_X4_timesInt : GoodIn wsX0_forceAt wsX4_timesInt := goodIn_r _ [7, 8, 9, 10, 11, 12, 13, 6, 14, 15, 16, 17, 18, 19, 20, 21, 22, 23, 24, 25, 26, 27, 28, 29, 30, 31, 32, 33, 34, 35, 36, 37, 38, 39, 40, 41, 42, 43, 44, 45, 46, 47, 48, 49, 50, 51, 52, 53, 54, 55, 56, 57, 58, 59] (by decide +kernel) (by decide +kernel)
set_option maxRecDepth 20000 in
theorem gX0_forceAt_X4_timesInt : GoodIn wsX0_forceAt (va_wsS RX0 17 yX4_timesInt wsX4_timesInt) := goodIn_app (goodIn_of _ (by decide +kernel)) ggX0_forceAt_X4_timesInt
theorem dX0_forceAt_0 : decode cX0_forceAt 0 = .ok (.aload_n 0, 1) := by decide +kernel
theorem dX0_forceAt_1 : decode cX0_forceAt 1 = .ok (.getfield 13, 3) := by decide +kernel
theorem dX0_forceAt_4 : decode cX0_forceAt 4 = .ok (.aload_n 0, 1) := by decide +kernel
theorem dX0_forceAt_5 : decode cX0_forceAt 5 = .ok (.getfield 7, 3) := by decide +kernel
theorem dX0_forceAt_8 : decode cX0_forceAt 8 = .ok (.invokestatic 17, 3) := by decide +kernel
theorem dX0_forceAt_11 : decode cX0_forceAt 11 = .ok (.lreturn, 1) := by decide +kernel
theorem dX1_init_0 : decode cX1_init 0 = .ok (.aload_n 0, 1) := by decide +kernel
theorem dX1_init_1 : decode cX1_init 1 = .ok (.invokespecial 1, 3) := by decide +kernel
theorem dX1_init_4 : decode cX1_init 4 = .ok (.aload_n 0, 1) := by decide +kernel
theorem dX1_init_5 : decode cX1_init 5 = .ok (.lconst 0, 1) := by decide +kernel
theorem dX1_init_6 : decode cX1_init 6 = .ok (.putfield 7, 3) := by decide +kernel
theorem dX1_init_9 : decode cX1_init 9 = .ok (.aload_n 0, 1) := by decide +kernel
theorem dX1_init_10 : decode cX1_init 10 = .ok (.lconst 0, 1) := by decide +kernel
theorem dX1_init_11 : decode cX1_init 11 = .ok (.putfield 13, 3) := by decide +kernel
theorem dX1_init_14 : decode cX1_init 14 = .ok (.aload_n 0, 1) := by decide +kernel
theorem dX1_init_15 : decode cX1_init 15 = .ok (.iload_n 1, 1) := by decide +kernel
theorem dX1_init_16 : decode cX1_init 16 = .ok (.putfield 16, 3) := by decide +kernel
theorem dX1_init_19 : decode cX1_init 19 = .ok (.aload_n 0, 1) := by decide +kernel
theorem dX1_init_20 : decode cX1_init 20 = .ok (.lload_n 2, 1) := by decide +kernel
theorem dX1_init_21 : decode cX1_init 21 = .ok (.putfield 20, 3) := by decide +kernel
theorem dX1_init_24 : decode cX1_init 24 = .ok (.return_, 1) := by decide +kernel
set_option maxRecDepth 20000 in
theorem ggX1_turnBy_X4_sum : GoodIn wsX1_turnBy wsX4_sum := goodIn_r _ [8, 9, 10, 7, 11, 12, 13, 14, 15, 16, 17, 18, 19, 20, 21, 22, 23, 24, 25, 26, 27, 28, 29, 30, 31, 32, 33, 34, 35, 36, 37, 38, 39, 40, 41, 42, 43, 44, 45, 46, 47, 48, 49, 50, 51, 52, 53, 54, 55, 56, 57, 58, 59, 60, 61, 62, 63] (by decide +kernel) (by decide +kernel)
set_option maxRecDepth 20000 in
theorem gX1_turnBy_X4_sum : GoodIn wsX1_turnBy (va_wsS RX1 23 yX4_sum wsX4_sum) := goodIn_app (goodIn_of _ (by decide +kernel)) ggX1_turnBy_X4_sum
set_option maxRecDepth 20000 in
theorem ggX1_turnBy_X4_isFit : GoodIn wsX1_turnBy wsX4_isFit := goodIn_r _ [66, 9, 10, 7, 11, 12, 13, 56, 57, 58, 59, 60] (by decide +kernel) (by decide +kernel)
set_option maxRecDepth 20000 in
theorem gX1_turnBy_X4_isFit : GoodIn wsX1_turnBy (va_wsS RX1 29 yX4_isFit wsX4_isFit) := goodIn_app (goodIn_of _ (by decide +kernel)) ggX1_turnBy_X4_isFit
set_option maxRecDepth 20000 in
theorem ggX1_turnBy_X4_quotient : GoodIn wsX1_turnBy wsX4_quotient := goodIn_r _ [69, 14, 15, 7, 16, 17, 18, 19, 9, 10, 11, 12, 13, 39, 40, 41, 42, 43, 44, 45, 46, 47, 48, 49, 50, 51, 52, 53, 54, 55, 20, 21, 22, 23, 24, 25, 26, 27, 28, 29, 33, 34, 35, 36, 37, 38, 56, 57, 58, 59, 60, 61, 62, 63] (by decide +kernel) (by decide +kernel)
set_option maxRecDepth 20000 in
theorem gX1_turnBy_X4_quotient : GoodIn wsX1_turnBy (va_wsS RX1 33 yX4_quotient wsX4_quotient) := goodIn_app (goodIn_of _ (by decide +kernel)) ggX1_turnBy_X4_quotient
set_option maxRecDepth 20000 in
theorem ggX1_turnBy_X4_cutToLong : GoodIn wsX1_turnBy wsX4_cutToLong := goodIn_r _ [72, 42, 12, 14, 15, 7, 16, 17, 18, 19, 9, 10, 11, 13, 20, 21, 22, 23, 24, 25, 26, 27, 28, 29, 44, 45, 46, 47, 48, 49, 50, 51, 52, 53, 54, 55] (by decide +kernel) (by decide +kernel)
set_option maxRecDepth 20000 in
theorem gX1_turnBy_X4_cutToLong : GoodIn wsX1_turnBy (va_wsS RX1 36 yX4_cutToLong wsX4_cutToLong) := goodIn_app (goodIn_of _ (by decide +kernel)) ggX1_turnBy_X4_cutToLong
set_option maxRecDepth 20000 in
theorem ggX1_turnBy_X4_leftOver : GoodIn wsX1_turnBy wsX4_leftOver := goodIn_r _ [75, 23, 24, 25, 26, 76, 77, 78, 14, 15, 7, 16, 17, 18, 19, 9, 10, 11, 12, 13, 47, 48, 49, 50, 51, 52, 53, 54, 55, 20, 21, 22, 27, 28, 29, 36, 37, 38, 39, 40, 41, 42, 43, 44, 45, 46, 56, 57, 58, 59, 60, 61, 62, 63] (by decide +kernel) (by decide +kernel)
set_option maxRecDepth 20000 in
theorem gX1_turnBy_X4_leftOver : GoodIn wsX1_turnBy (va_wsS RX1 40 yX4_leftOver wsX4_leftOver) := goodIn_app (goodIn_of _ (by decide +kernel)) ggX1_turnBy_X4_leftOver
theorem dX1_turnBy_0 : decode cX1_turnBy 0 = .ok (.aload_n 0, 1) := by decide +kernel
theorem dX1_turnBy_1 : decode cX1_turnBy 1 = .ok (.getfield 16, 3) := by decide +kernel
theorem dX1_turnBy_4 : decode cX1_turnBy 4 = .ok (.aload_n 0, 1) := by decide +kernel
theorem dX1_turnBy_5 : decode cX1_turnBy 5 = .ok (.getfield 7, 3) := by decide +kernel
theorem dX1_turnBy_8 : decode cX1_turnBy 8 = .ok (.lload_n 1, 1) := by decide +kernel
theorem dX1_turnBy_9 : decode cX1_turnBy 9 = .ok (.invokestatic 23, 3) := by decide +kernel
theorem dX1_turnBy_12 : decode cX1_turnBy 12 = .ok (.lstore_n 3, 1) := by decide +kernel
theorem dX1_turnBy_13 : decode cX1_turnBy 13 = .ok (.aload_n 0, 1) := by decide +kernel
theorem dX1_turnBy_14 : decode cX1_turnBy 14 = .ok (.getfield 16, 3) := by decide +kernel
theorem dX1_turnBy_17 : decode cX1_turnBy 17 = .ok (.lload_n 3, 1) := by decide +kernel
theorem dX1_turnBy_18 : decode cX1_turnBy 18 = .ok (.invokestatic 29, 3) := by decide +kernel
theorem dX1_turnBy_21 : decode cX1_turnBy 21 = .ok (.ifCond .ne 5, 3) := by decide +kernel
theorem dX1_turnBy_24 : decode cX1_turnBy 24 = .ok (.iconst 0, 1) := by decide +kernel
theorem dX1_turnBy_25 : decode cX1_turnBy 25 = .ok (.ireturn, 1) := by decide +kernel
theorem dX1_turnBy_26 : decode cX1_turnBy 26 = .ok (.aload_n 0, 1) := by decide +kernel
theorem dX1_turnBy_27 : decode cX1_turnBy 27 = .ok (.dup, 1) := by decide +kernel
theorem dX1_turnBy_28 : decode cX1_turnBy 28 = .ok (.getfield 13, 3) := by decide +kernel
theorem dX1_turnBy_31 : decode cX1_turnBy 31 = .ok (.aload_n 0, 1) := by decide +kernel
theorem dX1_turnBy_32 : decode cX1_turnBy 32 = .ok (.getfield 16, 3) := by decide +kernel
theorem dX1_turnBy_35 : decode cX1_turnBy 35 = .ok (.aload_n 0, 1) := by decide +kernel
theorem dX1_turnBy_36 : decode cX1_turnBy 36 = .ok (.getfield 16, 3) := by decide +kernel
theorem dX1_turnBy_39 : decode cX1_turnBy 39 = .ok (.lload_n 3, 1) := by decide +kernel
theorem dX1_turnBy_40 : decode cX1_turnBy 40 = .ok (.aload_n 0, 1) := by decide +kernel
theorem dX1_turnBy_41 : decode cX1_turnBy 41 = .ok (.getfield 20, 3) := by decide +kernel
theorem dX1_turnBy_44 : decode cX1_turnBy 44 = .ok (.invokestatic 33, 3) := by decide +kernel
theorem dX1_turnBy_47 : decode cX1_turnBy 47 = .ok (.invokestatic 36, 3) := by decide +kernel
theorem dX1_turnBy_50 : decode cX1_turnBy 50 = .ok (.ladd, 1) := by decide +kernel
theorem dX1_turnBy_51 : decode cX1_turnBy 51 = .ok (.putfield 13, 3) := by decide +kernel
theorem dX1_turnBy_54 : decode cX1_turnBy 54 = .ok (.aload_n 0, 1) := by decide +kernel
theorem dX1_turnBy_55 : decode cX1_turnBy 55 = .ok (.aload_n 0, 1) := by decide +kernel
theorem dX1_turnBy_56 : decode cX1_turnBy 56 = .ok (.getfield 16, 3) := by decide +kernel
theorem dX1_turnBy_59 : decode cX1_turnBy 59 = .ok (.lload_n 3, 1) := by decide +kernel
theorem dX1_turnBy_60 : decode cX1_turnBy 60 = .ok (.aload_n 0, 1) := by decide +kernel
theorem dX1_turnBy_61 : decode cX1_turnBy 61 = .ok (.getfield 20, 3) := by decide +kernel
theorem dX1_turnBy_64 : decode cX1_turnBy 64 = .ok (.invokestatic 40, 3) := by decide +kernel
theorem dX1_turnBy_67 : decode cX1_turnBy 67 = .ok (.putfield 7, 3) := by decide +kernel
theorem dX1_turnBy_70 : decode cX1_turnBy 70 = .ok (.iconst 1, 1) := by decide +kernel
theorem dX1_turnBy_71 : decode cX1_turnBy 71 = .ok (.ireturn, 1) := by decide +kernel
theorem dX2_init_0 : decode cX2_init 0 = .ok (.aload_n 0, 1) := by decide +kernel
theorem dX2_init_1 : decode cX2_init 1 = .ok (.invokespecial 1, 3) := by decide +kernel
theorem dX2_init_4 : decode cX2_init 4 = .ok (.aload_n 0, 1) := by decide +kernel
theorem dX2_init_5 : decode cX2_init 5 = .ok (.iconst 0, 1) := by decide +kernel
theorem dX2_init_6 : decode cX2_init 6 = .ok (.putfield 7, 3) := by decide +kernel
theorem dX2_init_9 : decode cX2_init 9 = .ok (.aload_n 0, 1) := by decide +kernel
theorem dX2_init_10 : decode cX2_init 10 = .ok (.iload_n 1, 1) := by decide +kernel
theorem dX2_init_11 : decode cX2_init 11 = .ok (.putfield 13, 3) := by decide +kernel
theorem dX2_init_14 : decode cX2_init 14 = .ok (.aload_n 0, 1) := by decide +kernel
theorem dX2_init_15 : decode cX2_init 15 = .ok (.lload_n 2, 1) := by decide +kernel
theorem dX2_init_16 : decode cX2_init 16 = .ok (.putfield 16, 3) := by decide +kernel
theorem dX2_init_19 : decode cX2_init 19 = .ok (.return_, 1) := by decide +kernel
set_option maxRecDepth 20000 in
theorem ggX2_pullAt_X4_ofReal : GoodIn wsX2_pullAt wsX4_ofReal := goodIn_r _ [7, 8, 9, 6, 10, 11, 12, 13, 14, 15, 16, 17, 18, 19, 20, 21, 22, 23, 24, 25, 26, 27, 28, 29, 30, 31, 32, 33, 34, 35, 36, 37, 38, 39, 40, 41, 42, 43, 44, 45, 46, 47, 48, 49, 50, 51, 52, 53, 54, 55, 56, 57, 58, 59] (by decide +kernel) (by decide +kernel)
set_option maxRecDepth 20000 in
theorem gX2_pullAt_X4_ofReal : GoodIn wsX2_pullAt (va_wsS RX2 29 yX4_ofReal wsX4_ofReal) := goodIn_app (goodIn_of _ (by decide +kernel)) ggX2_pullAt_X4_ofReal
set_option maxRecDepth 20000 in
theorem ggX2_pullAt_X0_forceAt : GoodIn wsX2_pullAt wsX0_forceAt := goodIn_r _ [65, 66, 67, 68, 69, 70, 6, 71, 72, 73, 37, 74, 26, 27, 28, 29, 30, 31, 11, 12, 13, 14, 15, 32, 33, 34, 35, 36, 38, 39, 40, 41, 42, 43, 44, 21, 22, 23, 24, 25, 45, 46, 47, 48, 49, 50, 51, 52, 53, 54, 55, 56, 16, 17, 18, 19, 20, 57, 58, 59, 134, 135, 136, 137, 138, 139, 140, 141, 142, 143, 144] (by decide +kernel) (by decide +kernel)
set_option maxRecDepth 20000 in
theorem gX2_pullAt_X0_forceAt_u35X0 : GoodIn wsX2_pullAt (va_wsU RX2 35 RX0 "OrreryDials$Drive" ⟨"OrreryDials$Drive", "forceAt", "(J)J"⟩ yX0_forceAt wsX0_forceAt) := goodIn_app (goodIn_of _ (by decide +kernel)) ggX2_pullAt_X0_forceAt
set_option maxRecDepth 20000 in
theorem ggX2_pullAt_X3_forceAt : GoodIn wsX2_pullAt wsX3_forceAt := goodIn_r _ [78, 79, 80, 81, 82, 83, 84, 85, 70, 6, 71, 72, 73, 37, 74, 26, 27, 28, 29, 30, 31, 11, 12, 13, 14, 15, 32, 33, 34, 35, 36, 38, 39, 40, 41, 42, 43, 44, 21, 22, 23, 24, 25, 45, 46, 47, 48, 49, 50, 51, 52, 53, 54, 55, 56, 16, 17, 18, 19, 20, 57, 58, 59, 86, 9, 10, 87, 88, 89, 90, 91, 92, 93, 94, 95, 134, 135, 136, 137, 138, 139, 140, 141, 142, 143, 144] (by decide +kernel) (by decide +kernel)
set_option maxRecDepth 20000 in
theorem gX2_pullAt_X3_forceAt_u35X3 : GoodIn wsX2_pullAt (va_wsU RX2 35 RX3 "OrreryDials$Drive" ⟨"OrreryDials$Drive", "forceAt", "(J)J"⟩ yX3_forceAt wsX3_forceAt) := goodIn_app (goodIn_of _ (by decide +kernel)) ggX2_pullAt_X3_forceAt
set_option maxRecDepth 20000 in
theorem ggX2_pullAt_X6_forceAt : GoodIn wsX2_pullAt wsX6_forceAt := goodIn_r _ [99, 100, 101, 102, 103, 6, 104, 24, 105, 88, 89, 11, 12, 13, 14, 15, 26, 27, 28, 29, 30, 31, 32, 33, 34, 35, 36, 37, 38, 39, 40, 41, 90, 91, 92, 93, 94, 95, 42, 43, 44, 21, 22, 23, 25, 45, 46, 47, 48, 49, 50, 51, 52, 53, 54, 55, 56, 16, 17, 18, 19, 20, 57, 58, 59, 134, 135, 136, 137, 138, 139, 140, 141, 142, 143, 144] (by decide +kernel) (by decide +kernel)
set_option maxRecDepth 20000 in
theorem gX2_pullAt_X6_forceAt_u35X6 : GoodIn wsX2_pullAt (va_wsU RX2 35 RX6 "OrreryDials$Drive" ⟨"OrreryDials$Drive", "forceAt", "(J)J"⟩ yX6_forceAt wsX6_forceAt) := goodIn_app (goodIn_of _ (by decide +kernel)) ggX2_pullAt_X6_forceAt
set_option maxRecDepth 20000 in
theorem ggX2_pullAt_X4_isFit : GoodIn wsX2_pullAt wsX4_isFit := goodIn_r _ [10, 11, 12, 6, 13, 14, 15, 16, 17, 18, 19, 20] (by decide +kernel) (by decide +kernel)
set_option maxRecDepth 20000 in
theorem gX2_pullAt_X4_isFit : GoodIn wsX2_pullAt (va_wsS RX2 39 yX4_isFit wsX4_isFit) := goodIn_app (goodIn_of _ (by decide +kernel)) ggX2_pullAt_X4_isFit
set_option maxRecDepth 20000 in
theorem ggX2_pullAt_X1_turnBy : GoodIn wsX2_pullAt wsX1_turnBy := goodIn_r _ [111, 112, 113, 114, 115, 116, 88, 6, 89, 11, 12, 13, 14, 15, 26, 27, 28, 29, 30, 31, 32, 33, 34, 35, 36, 37, 38, 39, 40, 41, 90, 91, 92, 93, 94, 95, 42, 43, 44, 21, 22, 23, 24, 25, 45, 46, 47, 48, 49, 50, 51, 52, 53, 54, 55, 56, 16, 17, 18, 19, 20, 57, 58, 59, 117, 9, 10, 118, 119, 120, 121, 122, 123, 124, 125, 126, 127, 128, 129, 130, 131, 132, 133] (by decide +kernel) (by decide +kernel)
set_option maxRecDepth 20000 in
theorem gX2_pullAt_X1_turnBy : GoodIn wsX2_pullAt (wsV RX2 43 RX1 yX1_turnBy wsX1_turnBy) := goodIn_app (goodIn_of _ (by decide +kernel)) ggX2_pullAt_X1_turnBy
theorem dX2_pullAt_0 : decode cX2_pullAt 0 = .ok (.aload_n 0, 1) := by decide +kernel
theorem dX2_pullAt_1 : decode cX2_pullAt 1 = .ok (.aload_n 1, 1) := by decide +kernel
theorem dX2_pullAt_2 : decode cX2_pullAt 2 = .ok (.getfield 20, 3) := by decide +kernel
theorem dX2_pullAt_5 : decode cX2_pullAt 5 = .ok (.iconst 1, 1) := by decide +kernel
theorem dX2_pullAt_6 : decode cX2_pullAt 6 = .ok (.aload_n 1, 1) := by decide +kernel
theorem dX2_pullAt_7 : decode cX2_pullAt 7 = .ok (.getfield 26, 3) := by decide +kernel
theorem dX2_pullAt_10 : decode cX2_pullAt 10 = .ok (.invokestatic 29, 3) := by decide +kernel
theorem dX2_pullAt_13 : decode cX2_pullAt 13 = .ok (.invokevirtual 35, 3) := by decide +kernel
theorem dX2_pullAt_16 : decode cX2_pullAt 16 = .ok (.lstore_n 2, 1) := by decide +kernel
theorem dX2_pullAt_17 : decode cX2_pullAt 17 = .ok (.aload_n 0, 1) := by decide +kernel
theorem dX2_pullAt_18 : decode cX2_pullAt 18 = .ok (.dup, 1) := by decide +kernel
theorem dX2_pullAt_19 : decode cX2_pullAt 19 = .ok (.getfield 7, 3) := by decide +kernel
theorem dX2_pullAt_22 : decode cX2_pullAt 22 = .ok (.iconst 1, 1) := by decide +kernel
theorem dX2_pullAt_23 : decode cX2_pullAt 23 = .ok (.iadd, 1) := by decide +kernel
theorem dX2_pullAt_24 : decode cX2_pullAt 24 = .ok (.putfield 7, 3) := by decide +kernel
theorem dX2_pullAt_27 : decode cX2_pullAt 27 = .ok (.iconst 1, 1) := by decide +kernel
theorem dX2_pullAt_28 : decode cX2_pullAt 28 = .ok (.aload_n 1, 1) := by decide +kernel
theorem dX2_pullAt_29 : decode cX2_pullAt 29 = .ok (.getfield 20, 3) := by decide +kernel
theorem dX2_pullAt_32 : decode cX2_pullAt 32 = .ok (.lload_n 2, 1) := by decide +kernel
theorem dX2_pullAt_33 : decode cX2_pullAt 33 = .ok (.invokestatic 29, 3) := by decide +kernel
theorem dX2_pullAt_36 : decode cX2_pullAt 36 = .ok (.lstore 4, 2) := by decide +kernel
theorem dX2_pullAt_38 : decode cX2_pullAt 38 = .ok (.aload_n 1, 1) := by decide +kernel
theorem dX2_pullAt_39 : decode cX2_pullAt 39 = .ok (.getfield 20, 3) := by decide +kernel
theorem dX2_pullAt_42 : decode cX2_pullAt 42 = .ok (.lload 4, 2) := by decide +kernel
theorem dX2_pullAt_44 : decode cX2_pullAt 44 = .ok (.invokestatic 39, 3) := by decide +kernel
theorem dX2_pullAt_47 : decode cX2_pullAt 47 = .ok (.ifCond .eq 16, 3) := by decide +kernel
theorem dX2_pullAt_50 : decode cX2_pullAt 50 = .ok (.aload_n 1, 1) := by decide +kernel
theorem dX2_pullAt_51 : decode cX2_pullAt 51 = .ok (.lload 4, 2) := by decide +kernel
theorem dX2_pullAt_53 : decode cX2_pullAt 53 = .ok (.invokevirtual 43, 3) := by decide +kernel
theorem dX2_pullAt_56 : decode cX2_pullAt 56 = .ok (.ifCond .eq 7, 3) := by decide +kernel
theorem dX2_pullAt_59 : decode cX2_pullAt 59 = .ok (.iconst 1, 1) := by decide +kernel
theorem dX2_pullAt_60 : decode cX2_pullAt 60 = .ok (.goto 4, 3) := by decide +kernel
theorem dX2_pullAt_63 : decode cX2_pullAt 63 = .ok (.iconst 0, 1) := by decide +kernel
theorem dX2_pullAt_64 : decode cX2_pullAt 64 = .ok (.ireturn, 1) := by decide +kernel
set_option maxRecDepth 20000 in
theorem ggX3_init_X0_init : GoodIn wsX3_init wsX0_init := goodIn_r _ [4, 5, 6, 7, 8, 9, 10, 11, 12, 13, 14, 15, 16, 17, 18, 19, 20, 21, 22, 23, 24, 25, 26] (by decide +kernel) (by decide +kernel)
set_option maxRecDepth 20000 in
theorem gX3_init_X0_init : GoodIn wsX3_init (wsX0_init) := ggX3_init_X0_init
theorem dX3_init_0 : decode cX3_init 0 = .ok (.aload_n 0, 1) := by decide +kernel
theorem dX3_init_1 : decode cX3_init 1 = .ok (.iload_n 1, 1) := by decide +kernel
theorem dX3_init_2 : decode cX3_init 2 = .ok (.lload_n 2, 1) := by decide +kernel
theorem dX3_init_3 : decode cX3_init 3 = .ok (.invokespecial 1, 3) := by decide +kernel
theorem dX3_init_6 : decode cX3_init 6 = .ok (.return_, 1) := by decide +kernel
set_option maxRecDepth 20000 in
theorem ggX3_forceAt_X4_timesInt : GoodIn wsX3_forceAt wsX4_timesInt := goodIn_r _ [10, 11, 12, 13, 14, 15, 16, 9, 17, 18, 19, 20, 21, 22, 23, 24, 25, 26, 27, 28, 29, 30, 31, 32, 33, 34, 35, 36, 37, 38, 39, 40, 41, 42, 43, 44, 45, 46, 47, 48, 49, 50, 51, 52, 53, 54, 55, 56, 57, 58, 59, 60, 61, 62] (by decide +kernel) (by decide +kernel)
set_option maxRecDepth 20000 in
theorem gX3_forceAt_X4_timesInt : GoodIn wsX3_forceAt (va_wsS RX3 17 yX4_timesInt wsX4_timesInt) := goodIn_app (goodIn_of _ (by decide +kernel)) ggX3_forceAt_X4_timesInt
set_option maxRecDepth 20000 in
theorem ggX3_forceAt_X4_isFit : GoodIn wsX3_forceAt wsX4_isFit := goodIn_r _ [65, 21, 22, 9, 23, 24, 25, 55, 56, 57, 58, 59] (by decide +kernel) (by decide +kernel)
set_option maxRecDepth 20000 in
theorem gX3_forceAt_X4_isFit : GoodIn wsX3_forceAt (va_wsS RX3 23 yX4_isFit wsX4_isFit) := goodIn_app (goodIn_of _ (by decide +kernel)) ggX3_forceAt_X4_isFit
set_option maxRecDepth 20000 in
theorem ggX3_forceAt_X4_sum : GoodIn wsX3_forceAt wsX4_sum := goodIn_r _ [68, 21, 22, 9, 23, 24, 25, 15, 16, 17, 18, 19, 20, 26, 27, 28, 29, 30, 13, 31, 32, 33, 34, 69, 70, 71, 72, 73, 74, 35, 36, 37, 38, 39, 40, 41, 42, 43, 44, 45, 46, 47, 48, 49, 50, 51, 52, 53, 54, 55, 56, 57, 58, 59, 60, 61, 62] (by decide +kernel) (by decide +kernel)
set_option maxRecDepth 20000 in
theorem gX3_forceAt_X4_sum : GoodIn wsX3_forceAt (va_wsS RX3 30 yX4_sum wsX4_sum) := goodIn_app (goodIn_of _ (by decide +kernel)) ggX3_forceAt_X4_sum
theorem dX3_forceAt_0 : decode cX3_forceAt 0 = .ok (.aload_n 0, 1) := by decide +kernel
theorem dX3_forceAt_1 : decode cX3_forceAt 1 = .ok (.getfield 7, 3) := by decide +kernel
theorem dX3_forceAt_4 : decode cX3_forceAt 4 = .ok (.aload_n 0, 1) := by decide +kernel
theorem dX3_forceAt_5 : decode cX3_forceAt 5 = .ok (.getfield 13, 3) := by decide +kernel
theorem dX3_forceAt_8 : decode cX3_forceAt 8 = .ok (.invokestatic 17, 3) := by decide +kernel
theorem dX3_forceAt_11 : decode cX3_forceAt 11 = .ok (.lstore_n 3, 1) := by decide +kernel
theorem dX3_forceAt_12 : decode cX3_forceAt 12 = .ok (.iconst 1, 1) := by decide +kernel
theorem dX3_forceAt_13 : decode cX3_forceAt 13 = .ok (.lload_n 3, 1) := by decide +kernel
theorem dX3_forceAt_14 : decode cX3_forceAt 14 = .ok (.invokestatic 23, 3) := by decide +kernel
theorem dX3_forceAt_17 : decode cX3_forceAt 17 = .ok (.ifCond .ne 5, 3) := by decide +kernel
theorem dX3_forceAt_20 : decode cX3_forceAt 20 = .ok (.lload_n 3, 1) := by decide +kernel
theorem dX3_forceAt_21 : decode cX3_forceAt 21 = .ok (.lreturn, 1) := by decide +kernel
theorem dX3_forceAt_22 : decode cX3_forceAt 22 = .ok (.aload_n 0, 1) := by decide +kernel
theorem dX3_forceAt_23 : decode cX3_forceAt 23 = .ok (.getfield 7, 3) := by decide +kernel
theorem dX3_forceAt_26 : decode cX3_forceAt 26 = .ok (.aload_n 0, 1) := by decide +kernel
theorem dX3_forceAt_27 : decode cX3_forceAt 27 = .ok (.getfield 27, 3) := by decide +kernel
theorem dX3_forceAt_30 : decode cX3_forceAt 30 = .ok (.invokestatic 17, 3) := by decide +kernel
theorem dX3_forceAt_33 : decode cX3_forceAt 33 = .ok (.lstore 5, 2) := by decide +kernel
theorem dX3_forceAt_35 : decode cX3_forceAt 35 = .ok (.iconst 1, 1) := by decide +kernel
theorem dX3_forceAt_36 : decode cX3_forceAt 36 = .ok (.lload 5, 2) := by decide +kernel
theorem dX3_forceAt_38 : decode cX3_forceAt 38 = .ok (.invokestatic 23, 3) := by decide +kernel
theorem dX3_forceAt_41 : decode cX3_forceAt 41 = .ok (.ifCond .eq 13, 3) := by decide +kernel
theorem dX3_forceAt_44 : decode cX3_forceAt 44 = .ok (.iconst 1, 1) := by decide +kernel
theorem dX3_forceAt_45 : decode cX3_forceAt 45 = .ok (.lload_n 3, 1) := by decide +kernel
theorem dX3_forceAt_46 : decode cX3_forceAt 46 = .ok (.lload 5, 2) := by decide +kernel
theorem dX3_forceAt_48 : decode cX3_forceAt 48 = .ok (.invokestatic 30, 3) := by decide +kernel
theorem dX3_forceAt_51 : decode cX3_forceAt 51 = .ok (.goto 5, 3) := by decide +kernel
theorem dX3_forceAt_54 : decode cX3_forceAt 54 = .ok (.lload 5, 2) := by decide +kernel
theorem dX3_forceAt_56 : decode cX3_forceAt 56 = .ok (.lreturn, 1) := by decide +kernel
theorem dX4_told_0 : decode cX4_told 0 = .ok (.iload_n 0, 1) := by decide +kernel
theorem dX4_told_1 : decode cX4_told 1 = .ok (.ifCond .eq 7, 3) := by decide +kernel
theorem dX4_told_4 : decode cX4_told 4 = .ok (.lload_n 1, 1) := by decide +kernel
theorem dX4_told_5 : decode cX4_told 5 = .ok (.goto 6, 3) := by decide +kernel
theorem dX4_told_8 : decode cX4_told 8 = .ok (.lload_n 1, 1) := by decide +kernel
theorem dX4_told_9 : decode cX4_told 9 = .ok (.l2i, 1) := by decide +kernel
theorem dX4_told_10 : decode cX4_told 10 = .ok (.i2l, 1) := by decide +kernel
theorem dX4_told_11 : decode cX4_told 11 = .ok (.lreturn, 1) := by decide +kernel
set_option maxRecDepth 20000 in
theorem ggX4_isNumber_X4_sizeOf : GoodIn wsX4_isNumber wsX4_sizeOf := goodIn_r _ [4, 5, 6] (by decide +kernel) (by decide +kernel)
set_option maxRecDepth 20000 in
theorem gX4_isNumber_X4_sizeOf : GoodIn wsX4_isNumber (va_wsS RX4 7 yX4_sizeOf wsX4_sizeOf) := goodIn_app (goodIn_of _ (by decide +kernel)) ggX4_isNumber_X4_sizeOf
set_option maxRecDepth 20000 in
theorem ggX4_isNumber_X4_endless : GoodIn wsX4_isNumber wsX4_endless := goodIn_r _ [9, 10, 11] (by decide +kernel) (by decide +kernel)
set_option maxRecDepth 20000 in
theorem gX4_isNumber_X4_endless : GoodIn wsX4_isNumber (va_wsS RX4 13 yX4_endless wsX4_endless) := goodIn_app (goodIn_of _ (by decide +kernel)) ggX4_isNumber_X4_endless
theorem dX4_isNumber_0 : decode cX4_isNumber 0 = .ok (.iload_n 0, 1) := by decide +kernel
theorem dX4_isNumber_1 : decode cX4_isNumber 1 = .ok (.lload_n 1, 1) := by decide +kernel
theorem dX4_isNumber_2 : decode cX4_isNumber 2 = .ok (.invokestatic 7, 3) := by decide +kernel
theorem dX4_isNumber_5 : decode cX4_isNumber 5 = .ok (.iload_n 0, 1) := by decide +kernel
theorem dX4_isNumber_6 : decode cX4_isNumber 6 = .ok (.invokestatic 13, 3) := by decide +kernel
theorem dX4_isNumber_9 : decode cX4_isNumber 9 = .ok (.lcmp, 1) := by decide +kernel
theorem dX4_isNumber_10 : decode cX4_isNumber 10 = .ok (.ifCond .gt 7, 3) := by decide +kernel
theorem dX4_isNumber_13 : decode cX4_isNumber 13 = .ok (.iconst 1, 1) := by decide +kernel
theorem dX4_isNumber_14 : decode cX4_isNumber 14 = .ok (.goto 4, 3) := by decide +kernel
theorem dX4_isNumber_17 : decode cX4_isNumber 17 = .ok (.iconst 0, 1) := by decide +kernel
theorem dX4_isNumber_18 : decode cX4_isNumber 18 = .ok (.ireturn, 1) := by decide +kernel
set_option maxRecDepth 20000 in
theorem ggX4_isFit_X4_sizeOf : GoodIn wsX4_isFit wsX4_sizeOf := goodIn_r _ [4, 5, 6] (by decide +kernel) (by decide +kernel)
set_option maxRecDepth 20000 in
theorem gX4_isFit_X4_sizeOf : GoodIn wsX4_isFit (va_wsS RX4 7 yX4_sizeOf wsX4_sizeOf) := goodIn_app (goodIn_of _ (by decide +kernel)) ggX4_isFit_X4_sizeOf
set_option maxRecDepth 20000 in
theorem ggX4_isFit_X4_endless : GoodIn wsX4_isFit wsX4_endless := goodIn_r _ [9, 10, 11] (by decide +kernel) (by decide +kernel)
set_option maxRecDepth 20000 in
theorem gX4_isFit_X4_endless : GoodIn wsX4_isFit (va_wsS RX4 13 yX4_endless wsX4_endless) := goodIn_app (goodIn_of _ (by decide +kernel)) ggX4_isFit_X4_endless
theorem dX4_isFit_0 : decode cX4_isFit 0 = .ok (.iload_n 0, 1) := by decide +kernel
theorem dX4_isFit_1 : decode cX4_isFit 1 = .ok (.lload_n 1, 1) := by decide +kernel
theorem dX4_isFit_2 : decode cX4_isFit 2 = .ok (.invokestatic 7, 3) := by decide +kernel
theorem dX4_isFit_5 : decode cX4_isFit 5 = .ok (.iload_n 0, 1) := by decide +kernel
theorem dX4_isFit_6 : decode cX4_isFit 6 = .ok (.invokestatic 13, 3) := by decide +kernel
theorem dX4_isFit_9 : decode cX4_isFit 9 = .ok (.lcmp, 1) := by decide +kernel
theorem dX4_isFit_10 : decode cX4_isFit 10 = .ok (.ifCond .ge 7, 3) := by decide +kernel
theorem dX4_isFit_13 : decode cX4_isFit 13 = .ok (.iconst 1, 1) := by decide +kernel
theorem dX4_isFit_14 : decode cX4_isFit 14 = .ok (.goto 4, 3) := by decide +kernel
theorem dX4_isFit_17 : decode cX4_isFit 17 = .ok (.iconst 0, 1) := by decide +kernel
theorem dX4_isFit_18 : decode cX4_isFit 18 = .ok (.ireturn, 1) := by decide +kernel
set_option maxRecDepth 20000 in
theorem ggX4_isZero_X4_sizeOf : GoodIn wsX4_isZero wsX4_sizeOf := goodIn_r _ [4, 5, 6] (by decide +kernel) (by decide +kernel)
set_option maxRecDepth 20000 in
theorem gX4_isZero_X4_sizeOf : GoodIn wsX4_isZero (va_wsS RX4 7 yX4_sizeOf wsX4_sizeOf) := goodIn_app (goodIn_of _ (by decide +kernel)) ggX4_isZero_X4_sizeOf
theorem dX4_isZero_0 : decode cX4_isZero 0 = .ok (.iload_n 0, 1) := by decide +kernel
theorem dX4_isZero_1 : decode cX4_isZero 1 = .ok (.lload_n 1, 1) := by decide +kernel
theorem dX4_isZero_2 : decode cX4_isZero 2 = .ok (.invokestatic 7, 3) := by decide +kernel
theorem dX4_isZero_5 : decode cX4_isZero 5 = .ok (.lconst 0, 1) := by decide +kernel
theorem dX4_isZero_6 : decode cX4_isZero 6 = .ok (.lcmp, 1) := by decide +kernel
theorem dX4_isZero_7 : decode cX4_isZero 7 = .ok (.ifCond .ne 7, 3) := by decide +kernel
theorem dX4_isZero_10 : decode cX4_isZero 10 = .ok (.iconst 1, 1) := by decide +kernel
theorem dX4_isZero_11 : decode cX4_isZero 11 = .ok (.goto 4, 3) := by decide +kernel
theorem dX4_isZero_14 : decode cX4_isZero 14 = .ok (.iconst 0, 1) := by decide +kernel
theorem dX4_isZero_15 : decode cX4_isZero 15 = .ok (.ireturn, 1) := by decide +kernel
theorem dX4_negated_0 : decode cX4_negated 0 = .ok (.lload_n 0, 1) := by decide +kernel
theorem dX4_negated_1 : decode cX4_negated 1 = .ok (.ldc2_w 19, 3) := by decide +kernel
theorem dX4_negated_4 : decode cX4_negated 4 = .ok (.lxor, 1) := by decide +kernel
theorem dX4_negated_5 : decode cX4_negated 5 = .ok (.lreturn, 1) := by decide +kernel
set_option maxRecDepth 20000 in
theorem ggX4_sum_X4_sizeOf : GoodIn wsX4_sum wsX4_sizeOf := goodIn_r _ [4, 5, 6] (by decide +kernel) (by decide +kernel)
set_option maxRecDepth 20000 in
theorem gX4_sum_X4_sizeOf : GoodIn wsX4_sum (va_wsS RX4 7 yX4_sizeOf wsX4_sizeOf) := goodIn_app (goodIn_of _ (by decide +kernel)) ggX4_sum_X4_sizeOf
set_option maxRecDepth 20000 in
theorem ggX4_sum_X4_mantissa : GoodIn wsX4_sum wsX4_mantissa := goodIn_r _ [9, 10, 11, 3, 12, 1, 2, 4, 5, 6] (by decide +kernel) (by decide +kernel)
set_option maxRecDepth 20000 in
theorem gX4_sum_X4_mantissa : GoodIn wsX4_sum (va_wsS RX4 21 yX4_mantissa wsX4_mantissa) := goodIn_app (goodIn_of _ (by decide +kernel)) ggX4_sum_X4_mantissa
set_option maxRecDepth 20000 in
theorem ggX4_sum_X4_exponent : GoodIn wsX4_sum wsX4_exponent := goodIn_r _ [15, 16, 17, 18, 19, 1, 2, 3, 4, 5, 6, 10, 11, 12, 20, 21, 22] (by decide +kernel) (by decide +kernel)
set_option maxRecDepth 20000 in
theorem gX4_sum_X4_exponent : GoodIn wsX4_sum (va_wsS RX4 24 yX4_exponent wsX4_exponent) := goodIn_app (goodIn_of _ (by decide +kernel)) ggX4_sum_X4_exponent
set_option maxRecDepth 20000 in
theorem ggX4_sum_X4_shiftedOut : GoodIn wsX4_sum wsX4_shiftedOut := goodIn_r _ [25, 26, 27, 3, 28] (by decide +kernel) (by decide +kernel)
set_option maxRecDepth 20000 in
theorem gX4_sum_X4_shiftedOut : GoodIn wsX4_sum (va_wsS RX4 28 yX4_shiftedOut wsX4_shiftedOut) := goodIn_app (goodIn_of _ (by decide +kernel)) ggX4_sum_X4_shiftedOut
set_option maxRecDepth 20000 in
theorem ggX4_sum_X4_nearest : GoodIn wsX4_sum wsX4_nearest := goodIn_r _ [31, 16, 17, 18, 19, 32, 33, 3, 34, 35, 36, 20, 21, 22, 37, 38, 39, 40, 41, 42, 43, 44, 45, 46, 47, 48, 10, 11, 12, 49, 50, 51, 52, 53, 54, 55, 56] (by decide +kernel) (by decide +kernel)
set_option maxRecDepth 20000 in
theorem gX4_sum_X4_nearest : GoodIn wsX4_sum (va_wsS RX4 32 yX4_nearest wsX4_nearest) := goodIn_app (goodIn_of _ (by decide +kernel)) ggX4_sum_X4_nearest
theorem dX4_sum_0 : decode cX4_sum 0 = .ok (.iload_n 0, 1) := by decide +kernel
theorem dX4_sum_1 : decode cX4_sum 1 = .ok (.lload_n 1, 1) := by decide +kernel
theorem dX4_sum_2 : decode cX4_sum 2 = .ok (.invokestatic 7, 3) := by decide +kernel
theorem dX4_sum_5 : decode cX4_sum 5 = .ok (.iload_n 0, 1) := by decide +kernel
theorem dX4_sum_6 : decode cX4_sum 6 = .ok (.lload_n 3, 1) := by decide +kernel
theorem dX4_sum_7 : decode cX4_sum 7 = .ok (.invokestatic 7, 3) := by decide +kernel
theorem dX4_sum_10 : decode cX4_sum 10 = .ok (.lcmp, 1) := by decide +kernel
theorem dX4_sum_11 : decode cX4_sum 11 = .ok (.ifCond .lt 7, 3) := by decide +kernel
theorem dX4_sum_14 : decode cX4_sum 14 = .ok (.iconst 1, 1) := by decide +kernel
theorem dX4_sum_15 : decode cX4_sum 15 = .ok (.goto 4, 3) := by decide +kernel
theorem dX4_sum_18 : decode cX4_sum 18 = .ok (.iconst 0, 1) := by decide +kernel
theorem dX4_sum_19 : decode cX4_sum 19 = .ok (.istore 5, 2) := by decide +kernel
theorem dX4_sum_21 : decode cX4_sum 21 = .ok (.iload 5, 2) := by decide +kernel
theorem dX4_sum_23 : decode cX4_sum 23 = .ok (.ifCond .eq 7, 3) := by decide +kernel
theorem dX4_sum_26 : decode cX4_sum 26 = .ok (.lload_n 1, 1) := by decide +kernel
theorem dX4_sum_27 : decode cX4_sum 27 = .ok (.goto 4, 3) := by decide +kernel
theorem dX4_sum_30 : decode cX4_sum 30 = .ok (.lload_n 3, 1) := by decide +kernel
theorem dX4_sum_31 : decode cX4_sum 31 = .ok (.lstore 6, 2) := by decide +kernel
theorem dX4_sum_33 : decode cX4_sum 33 = .ok (.iload 5, 2) := by decide +kernel
theorem dX4_sum_35 : decode cX4_sum 35 = .ok (.ifCond .eq 7, 3) := by decide +kernel
theorem dX4_sum_38 : decode cX4_sum 38 = .ok (.lload_n 3, 1) := by decide +kernel
theorem dX4_sum_39 : decode cX4_sum 39 = .ok (.goto 4, 3) := by decide +kernel
theorem dX4_sum_42 : decode cX4_sum 42 = .ok (.lload_n 1, 1) := by decide +kernel
theorem dX4_sum_43 : decode cX4_sum 43 = .ok (.lstore 8, 2) := by decide +kernel
theorem dX4_sum_45 : decode cX4_sum 45 = .ok (.iload_n 0, 1) := by decide +kernel
theorem dX4_sum_46 : decode cX4_sum 46 = .ok (.lload 6, 2) := by decide +kernel
theorem dX4_sum_48 : decode cX4_sum 48 = .ok (.invokestatic 21, 3) := by decide +kernel
theorem dX4_sum_51 : decode cX4_sum 51 = .ok (.iconst 3, 1) := by decide +kernel
theorem dX4_sum_52 : decode cX4_sum 52 = .ok (.lshl, 1) := by decide +kernel
theorem dX4_sum_53 : decode cX4_sum 53 = .ok (.lstore 10, 2) := by decide +kernel
theorem dX4_sum_55 : decode cX4_sum 55 = .ok (.iload_n 0, 1) := by decide +kernel
theorem dX4_sum_56 : decode cX4_sum 56 = .ok (.lload 6, 2) := by decide +kernel
theorem dX4_sum_58 : decode cX4_sum 58 = .ok (.invokestatic 24, 3) := by decide +kernel
theorem dX4_sum_61 : decode cX4_sum 61 = .ok (.iload_n 0, 1) := by decide +kernel
theorem dX4_sum_62 : decode cX4_sum 62 = .ok (.lload 8, 2) := by decide +kernel
theorem dX4_sum_64 : decode cX4_sum 64 = .ok (.invokestatic 24, 3) := by decide +kernel
theorem dX4_sum_67 : decode cX4_sum 67 = .ok (.isub, 1) := by decide +kernel
theorem dX4_sum_68 : decode cX4_sum 68 = .ok (.istore 12, 2) := by decide +kernel
theorem dX4_sum_70 : decode cX4_sum 70 = .ok (.iload_n 0, 1) := by decide +kernel
theorem dX4_sum_71 : decode cX4_sum 71 = .ok (.lload 8, 2) := by decide +kernel
theorem dX4_sum_73 : decode cX4_sum 73 = .ok (.invokestatic 21, 3) := by decide +kernel
theorem dX4_sum_76 : decode cX4_sum 76 = .ok (.iconst 3, 1) := by decide +kernel
theorem dX4_sum_77 : decode cX4_sum 77 = .ok (.lshl, 1) := by decide +kernel
theorem dX4_sum_78 : decode cX4_sum 78 = .ok (.iload 12, 2) := by decide +kernel
theorem dX4_sum_80 : decode cX4_sum 80 = .ok (.invokestatic 28, 3) := by decide +kernel
theorem dX4_sum_83 : decode cX4_sum 83 = .ok (.lstore 13, 2) := by decide +kernel
theorem dX4_sum_85 : decode cX4_sum 85 = .ok (.lload 6, 2) := by decide +kernel
theorem dX4_sum_87 : decode cX4_sum 87 = .ok (.lconst 0, 1) := by decide +kernel
theorem dX4_sum_88 : decode cX4_sum 88 = .ok (.lcmp, 1) := by decide +kernel
theorem dX4_sum_89 : decode cX4_sum 89 = .ok (.ifCond .ge 7, 3) := by decide +kernel
theorem dX4_sum_92 : decode cX4_sum 92 = .ok (.iconst 1, 1) := by decide +kernel
theorem dX4_sum_93 : decode cX4_sum 93 = .ok (.goto 4, 3) := by decide +kernel
theorem dX4_sum_96 : decode cX4_sum 96 = .ok (.iconst 0, 1) := by decide +kernel
theorem dX4_sum_97 : decode cX4_sum 97 = .ok (.lload 8, 2) := by decide +kernel
theorem dX4_sum_99 : decode cX4_sum 99 = .ok (.lconst 0, 1) := by decide +kernel
theorem dX4_sum_100 : decode cX4_sum 100 = .ok (.lcmp, 1) := by decide +kernel
theorem dX4_sum_101 : decode cX4_sum 101 = .ok (.ifCond .ge 7, 3) := by decide +kernel
theorem dX4_sum_104 : decode cX4_sum 104 = .ok (.iconst 1, 1) := by decide +kernel
theorem dX4_sum_105 : decode cX4_sum 105 = .ok (.goto 4, 3) := by decide +kernel
theorem dX4_sum_108 : decode cX4_sum 108 = .ok (.iconst 0, 1) := by decide +kernel
theorem dX4_sum_109 : decode cX4_sum 109 = .ok (.if_icmp .ne 7, 3) := by decide +kernel
theorem dX4_sum_112 : decode cX4_sum 112 = .ok (.iconst 1, 1) := by decide +kernel
theorem dX4_sum_113 : decode cX4_sum 113 = .ok (.goto 4, 3) := by decide +kernel
theorem dX4_sum_116 : decode cX4_sum 116 = .ok (.iconst 0, 1) := by decide +kernel
theorem dX4_sum_117 : decode cX4_sum 117 = .ok (.istore 15, 2) := by decide +kernel
theorem dX4_sum_119 : decode cX4_sum 119 = .ok (.iload 15, 2) := by decide +kernel
theorem dX4_sum_121 : decode cX4_sum 121 = .ok (.ifCond .eq 11, 3) := by decide +kernel
theorem dX4_sum_124 : decode cX4_sum 124 = .ok (.lload 10, 2) := by decide +kernel
theorem dX4_sum_126 : decode cX4_sum 126 = .ok (.lload 13, 2) := by decide +kernel
theorem dX4_sum_128 : decode cX4_sum 128 = .ok (.ladd, 1) := by decide +kernel
theorem dX4_sum_129 : decode cX4_sum 129 = .ok (.goto 8, 3) := by decide +kernel
theorem dX4_sum_132 : decode cX4_sum 132 = .ok (.lload 10, 2) := by decide +kernel
theorem dX4_sum_134 : decode cX4_sum 134 = .ok (.lload 13, 2) := by decide +kernel
theorem dX4_sum_136 : decode cX4_sum 136 = .ok (.lsub, 1) := by decide +kernel
theorem dX4_sum_137 : decode cX4_sum 137 = .ok (.lstore 16, 2) := by decide +kernel
theorem dX4_sum_139 : decode cX4_sum 139 = .ok (.lload 6, 2) := by decide +kernel
theorem dX4_sum_141 : decode cX4_sum 141 = .ok (.lconst 0, 1) := by decide +kernel
theorem dX4_sum_142 : decode cX4_sum 142 = .ok (.lcmp, 1) := by decide +kernel
theorem dX4_sum_143 : decode cX4_sum 143 = .ok (.ifCond .ge 21, 3) := by decide +kernel
theorem dX4_sum_146 : decode cX4_sum 146 = .ok (.lload 16, 2) := by decide +kernel
theorem dX4_sum_148 : decode cX4_sum 148 = .ok (.lconst 0, 1) := by decide +kernel
theorem dX4_sum_149 : decode cX4_sum 149 = .ok (.lcmp, 1) := by decide +kernel
theorem dX4_sum_150 : decode cX4_sum 150 = .ok (.ifCond .ne 10, 3) := by decide +kernel
theorem dX4_sum_153 : decode cX4_sum 153 = .ok (.lload 8, 2) := by decide +kernel
theorem dX4_sum_155 : decode cX4_sum 155 = .ok (.lconst 0, 1) := by decide +kernel
theorem dX4_sum_156 : decode cX4_sum 156 = .ok (.lcmp, 1) := by decide +kernel
theorem dX4_sum_157 : decode cX4_sum 157 = .ok (.ifCond .ge 7, 3) := by decide +kernel
theorem dX4_sum_160 : decode cX4_sum 160 = .ok (.iconst 1, 1) := by decide +kernel
theorem dX4_sum_161 : decode cX4_sum 161 = .ok (.goto 4, 3) := by decide +kernel
theorem dX4_sum_164 : decode cX4_sum 164 = .ok (.iconst 0, 1) := by decide +kernel
theorem dX4_sum_165 : decode cX4_sum 165 = .ok (.istore 18, 2) := by decide +kernel
theorem dX4_sum_167 : decode cX4_sum 167 = .ok (.iload_n 0, 1) := by decide +kernel
theorem dX4_sum_168 : decode cX4_sum 168 = .ok (.iload 18, 2) := by decide +kernel
theorem dX4_sum_170 : decode cX4_sum 170 = .ok (.lload 16, 2) := by decide +kernel
theorem dX4_sum_172 : decode cX4_sum 172 = .ok (.iload_n 0, 1) := by decide +kernel
theorem dX4_sum_173 : decode cX4_sum 173 = .ok (.lload 6, 2) := by decide +kernel
theorem dX4_sum_175 : decode cX4_sum 175 = .ok (.invokestatic 24, 3) := by decide +kernel
theorem dX4_sum_178 : decode cX4_sum 178 = .ok (.iconst 3, 1) := by decide +kernel
theorem dX4_sum_179 : decode cX4_sum 179 = .ok (.isub, 1) := by decide +kernel
theorem dX4_sum_180 : decode cX4_sum 180 = .ok (.invokestatic 32, 3) := by decide +kernel
theorem dX4_sum_183 : decode cX4_sum 183 = .ok (.lreturn, 1) := by decide +kernel
set_option maxRecDepth 20000 in
theorem ggX4_quotient_X4_mantissa : GoodIn wsX4_quotient wsX4_mantissa := goodIn_r _ [4, 5, 6, 3, 7, 8, 9, 10, 11, 12] (by decide +kernel) (by decide +kernel)
set_option maxRecDepth 20000 in
theorem gX4_quotient_X4_mantissa : GoodIn wsX4_quotient (va_wsS RX4 21 yX4_mantissa wsX4_mantissa) := goodIn_app (goodIn_of _ (by decide +kernel)) ggX4_quotient_X4_mantissa
set_option maxRecDepth 20000 in
theorem ggX4_quotient_X4_signed : GoodIn wsX4_quotient wsX4_signed := goodIn_r _ [15, 16, 17] (by decide +kernel) (by decide +kernel)
set_option maxRecDepth 20000 in
theorem gX4_quotient_X4_signed : GoodIn wsX4_quotient (va_wsS RX4 36 yX4_signed wsX4_signed) := goodIn_app (goodIn_of _ (by decide +kernel)) ggX4_quotient_X4_signed
set_option maxRecDepth 20000 in
theorem ggX4_quotient_X4_lengthOf : GoodIn wsX4_quotient wsX4_lengthOf := goodIn_r _ [20, 21, 22, 23, 24, 25, 26, 27, 28, 29] (by decide +kernel) (by decide +kernel)
set_option maxRecDepth 20000 in
theorem gX4_quotient_X4_lengthOf : GoodIn wsX4_quotient (va_wsS RX4 40 yX4_lengthOf wsX4_lengthOf) := goodIn_app (goodIn_of _ (by decide +kernel)) ggX4_quotient_X4_lengthOf
set_option maxRecDepth 20000 in
theorem ggX4_quotient_X4_exponent : GoodIn wsX4_quotient wsX4_exponent := goodIn_r _ [32, 33, 34, 35, 36, 8, 9, 3, 10, 11, 12, 5, 6, 7, 37, 38, 39] (by decide +kernel) (by decide +kernel)
set_option maxRecDepth 20000 in
theorem gX4_quotient_X4_exponent : GoodIn wsX4_quotient (va_wsS RX4 24 yX4_exponent wsX4_exponent) := goodIn_app (goodIn_of _ (by decide +kernel)) ggX4_quotient_X4_exponent
set_option maxRecDepth 20000 in
theorem ggX4_quotient_X4_withMore : GoodIn wsX4_quotient wsX4_withMore := goodIn_r _ [42] (by decide +kernel) (by decide +kernel)
set_option maxRecDepth 20000 in
theorem gX4_quotient_X4_withMore : GoodIn wsX4_quotient (va_wsS RX4 44 yX4_withMore wsX4_withMore) := goodIn_app (goodIn_of _ (by decide +kernel)) ggX4_quotient_X4_withMore
set_option maxRecDepth 20000 in
theorem ggX4_quotient_X4_nearest : GoodIn wsX4_quotient wsX4_nearest := goodIn_r _ [45, 33, 34, 35, 36, 13, 14, 3, 15, 16, 17, 37, 38, 39, 18, 19, 20, 21, 22, 23, 24, 25, 26, 27, 28, 29, 5, 6, 7, 46, 47, 48, 49, 50, 51, 52, 53] (by decide +kernel) (by decide +kernel)
set_option maxRecDepth 20000 in
theorem gX4_quotient_X4_nearest : GoodIn wsX4_quotient (va_wsS RX4 32 yX4_nearest wsX4_nearest) := goodIn_app (goodIn_of _ (by decide +kernel)) ggX4_quotient_X4_nearest
theorem dX4_quotient_0 : decode cX4_quotient 0 = .ok (.lload_n 1, 1) := by decide +kernel
theorem dX4_quotient_1 : decode cX4_quotient 1 = .ok (.lconst 0, 1) := by decide +kernel
theorem dX4_quotient_2 : decode cX4_quotient 2 = .ok (.lcmp, 1) := by decide +kernel
theorem dX4_quotient_3 : decode cX4_quotient 3 = .ok (.ifCond .ge 7, 3) := by decide +kernel
theorem dX4_quotient_6 : decode cX4_quotient 6 = .ok (.iconst 1, 1) := by decide +kernel
theorem dX4_quotient_7 : decode cX4_quotient 7 = .ok (.goto 4, 3) := by decide +kernel
theorem dX4_quotient_10 : decode cX4_quotient 10 = .ok (.iconst 0, 1) := by decide +kernel
theorem dX4_quotient_11 : decode cX4_quotient 11 = .ok (.lload_n 3, 1) := by decide +kernel
theorem dX4_quotient_12 : decode cX4_quotient 12 = .ok (.lconst 0, 1) := by decide +kernel
theorem dX4_quotient_13 : decode cX4_quotient 13 = .ok (.lcmp, 1) := by decide +kernel
theorem dX4_quotient_14 : decode cX4_quotient 14 = .ok (.ifCond .ge 7, 3) := by decide +kernel
theorem dX4_quotient_17 : decode cX4_quotient 17 = .ok (.iconst 1, 1) := by decide +kernel
theorem dX4_quotient_18 : decode cX4_quotient 18 = .ok (.goto 4, 3) := by decide +kernel
theorem dX4_quotient_21 : decode cX4_quotient 21 = .ok (.iconst 0, 1) := by decide +kernel
theorem dX4_quotient_22 : decode cX4_quotient 22 = .ok (.if_icmp .eq 7, 3) := by decide +kernel
theorem dX4_quotient_25 : decode cX4_quotient 25 = .ok (.iconst 1, 1) := by decide +kernel
theorem dX4_quotient_26 : decode cX4_quotient 26 = .ok (.goto 4, 3) := by decide +kernel
theorem dX4_quotient_29 : decode cX4_quotient 29 = .ok (.iconst 0, 1) := by decide +kernel
theorem dX4_quotient_30 : decode cX4_quotient 30 = .ok (.istore 5, 2) := by decide +kernel
theorem dX4_quotient_32 : decode cX4_quotient 32 = .ok (.iload_n 0, 1) := by decide +kernel
theorem dX4_quotient_33 : decode cX4_quotient 33 = .ok (.lload_n 1, 1) := by decide +kernel
theorem dX4_quotient_34 : decode cX4_quotient 34 = .ok (.invokestatic 21, 3) := by decide +kernel
theorem dX4_quotient_37 : decode cX4_quotient 37 = .ok (.lstore 6, 2) := by decide +kernel
theorem dX4_quotient_39 : decode cX4_quotient 39 = .ok (.iload_n 0, 1) := by decide +kernel
theorem dX4_quotient_40 : decode cX4_quotient 40 = .ok (.lload_n 3, 1) := by decide +kernel
theorem dX4_quotient_41 : decode cX4_quotient 41 = .ok (.invokestatic 21, 3) := by decide +kernel
theorem dX4_quotient_44 : decode cX4_quotient 44 = .ok (.lstore 8, 2) := by decide +kernel
theorem dX4_quotient_46 : decode cX4_quotient 46 = .ok (.lload 6, 2) := by decide +kernel
theorem dX4_quotient_48 : decode cX4_quotient 48 = .ok (.lconst 0, 1) := by decide +kernel
theorem dX4_quotient_49 : decode cX4_quotient 49 = .ok (.lcmp, 1) := by decide +kernel
theorem dX4_quotient_50 : decode cX4_quotient 50 = .ok (.ifCond .eq 10, 3) := by decide +kernel
theorem dX4_quotient_53 : decode cX4_quotient 53 = .ok (.lload 8, 2) := by decide +kernel
theorem dX4_quotient_55 : decode cX4_quotient 55 = .ok (.lconst 0, 1) := by decide +kernel
theorem dX4_quotient_56 : decode cX4_quotient 56 = .ok (.lcmp, 1) := by decide +kernel
theorem dX4_quotient_57 : decode cX4_quotient 57 = .ok (.ifCond .ne 11, 3) := by decide +kernel
theorem dX4_quotient_60 : decode cX4_quotient 60 = .ok (.iload_n 0, 1) := by decide +kernel
theorem dX4_quotient_61 : decode cX4_quotient 61 = .ok (.iload 5, 2) := by decide +kernel
theorem dX4_quotient_63 : decode cX4_quotient 63 = .ok (.lconst 0, 1) := by decide +kernel
theorem dX4_quotient_64 : decode cX4_quotient 64 = .ok (.invokestatic 36, 3) := by decide +kernel
theorem dX4_quotient_67 : decode cX4_quotient 67 = .ok (.lreturn, 1) := by decide +kernel
theorem dX4_quotient_68 : decode cX4_quotient 68 = .ok (.bipush 53, 2) := by decide +kernel
theorem dX4_quotient_70 : decode cX4_quotient 70 = .ok (.lload 6, 2) := by decide +kernel
theorem dX4_quotient_72 : decode cX4_quotient 72 = .ok (.invokestatic 40, 3) := by decide +kernel
theorem dX4_quotient_75 : decode cX4_quotient 75 = .ok (.isub, 1) := by decide +kernel
theorem dX4_quotient_76 : decode cX4_quotient 76 = .ok (.istore 10, 2) := by decide +kernel
theorem dX4_quotient_78 : decode cX4_quotient 78 = .ok (.bipush 53, 2) := by decide +kernel
theorem dX4_quotient_80 : decode cX4_quotient 80 = .ok (.lload 8, 2) := by decide +kernel
theorem dX4_quotient_82 : decode cX4_quotient 82 = .ok (.invokestatic 40, 3) := by decide +kernel
theorem dX4_quotient_85 : decode cX4_quotient 85 = .ok (.isub, 1) := by decide +kernel
theorem dX4_quotient_86 : decode cX4_quotient 86 = .ok (.istore 11, 2) := by decide +kernel
theorem dX4_quotient_88 : decode cX4_quotient 88 = .ok (.lload 6, 2) := by decide +kernel
theorem dX4_quotient_90 : decode cX4_quotient 90 = .ok (.iload 10, 2) := by decide +kernel
theorem dX4_quotient_92 : decode cX4_quotient 92 = .ok (.lshl, 1) := by decide +kernel
theorem dX4_quotient_93 : decode cX4_quotient 93 = .ok (.lstore 6, 2) := by decide +kernel
theorem dX4_quotient_95 : decode cX4_quotient 95 = .ok (.lload 8, 2) := by decide +kernel
theorem dX4_quotient_97 : decode cX4_quotient 97 = .ok (.iload 11, 2) := by decide +kernel
theorem dX4_quotient_99 : decode cX4_quotient 99 = .ok (.lshl, 1) := by decide +kernel
theorem dX4_quotient_100 : decode cX4_quotient 100 = .ok (.lstore 8, 2) := by decide +kernel
theorem dX4_quotient_102 : decode cX4_quotient 102 = .ok (.lload 6, 2) := by decide +kernel
theorem dX4_quotient_104 : decode cX4_quotient 104 = .ok (.lload 8, 2) := by decide +kernel
theorem dX4_quotient_106 : decode cX4_quotient 106 = .ok (.ldiv, 1) := by decide +kernel
theorem dX4_quotient_107 : decode cX4_quotient 107 = .ok (.lstore 12, 2) := by decide +kernel
theorem dX4_quotient_109 : decode cX4_quotient 109 = .ok (.lload 6, 2) := by decide +kernel
theorem dX4_quotient_111 : decode cX4_quotient 111 = .ok (.lload 8, 2) := by decide +kernel
theorem dX4_quotient_113 : decode cX4_quotient 113 = .ok (.lrem, 1) := by decide +kernel
theorem dX4_quotient_114 : decode cX4_quotient 114 = .ok (.lstore 14, 2) := by decide +kernel
theorem dX4_quotient_116 : decode cX4_quotient 116 = .ok (.iconst 0, 1) := by decide +kernel
theorem dX4_quotient_117 : decode cX4_quotient 117 = .ok (.istore 16, 2) := by decide +kernel
theorem dX4_quotient_119 : decode cX4_quotient 119 = .ok (.iload 16, 2) := by decide +kernel
theorem dX4_quotient_121 : decode cX4_quotient 121 = .ok (.bipush 6, 2) := by decide +kernel
theorem dX4_quotient_123 : decode cX4_quotient 123 = .ok (.if_icmp .ge 36, 3) := by decide +kernel
theorem dX4_quotient_126 : decode cX4_quotient 126 = .ok (.lload 14, 2) := by decide +kernel
theorem dX4_quotient_128 : decode cX4_quotient 128 = .ok (.bipush 10, 2) := by decide +kernel
theorem dX4_quotient_130 : decode cX4_quotient 130 = .ok (.lshl, 1) := by decide +kernel
theorem dX4_quotient_131 : decode cX4_quotient 131 = .ok (.lstore 14, 2) := by decide +kernel
theorem dX4_quotient_133 : decode cX4_quotient 133 = .ok (.lload 12, 2) := by decide +kernel
theorem dX4_quotient_135 : decode cX4_quotient 135 = .ok (.bipush 10, 2) := by decide +kernel
theorem dX4_quotient_137 : decode cX4_quotient 137 = .ok (.lshl, 1) := by decide +kernel
theorem dX4_quotient_138 : decode cX4_quotient 138 = .ok (.lload 14, 2) := by decide +kernel
theorem dX4_quotient_140 : decode cX4_quotient 140 = .ok (.lload 8, 2) := by decide +kernel
theorem dX4_quotient_142 : decode cX4_quotient 142 = .ok (.ldiv, 1) := by decide +kernel
theorem dX4_quotient_143 : decode cX4_quotient 143 = .ok (.lor, 1) := by decide +kernel
theorem dX4_quotient_144 : decode cX4_quotient 144 = .ok (.lstore 12, 2) := by decide +kernel
theorem dX4_quotient_146 : decode cX4_quotient 146 = .ok (.lload 14, 2) := by decide +kernel
theorem dX4_quotient_148 : decode cX4_quotient 148 = .ok (.lload 8, 2) := by decide +kernel
theorem dX4_quotient_150 : decode cX4_quotient 150 = .ok (.lrem, 1) := by decide +kernel
theorem dX4_quotient_151 : decode cX4_quotient 151 = .ok (.lstore 14, 2) := by decide +kernel
theorem dX4_quotient_153 : decode cX4_quotient 153 = .ok (.iinc 16 1, 3) := by decide +kernel
theorem dX4_quotient_156 : decode cX4_quotient 156 = .ok (.goto (-37), 3) := by decide +kernel
theorem dX4_quotient_159 : decode cX4_quotient 159 = .ok (.iload_n 0, 1) := by decide +kernel
theorem dX4_quotient_160 : decode cX4_quotient 160 = .ok (.lload_n 1, 1) := by decide +kernel
theorem dX4_quotient_161 : decode cX4_quotient 161 = .ok (.invokestatic 24, 3) := by decide +kernel
theorem dX4_quotient_164 : decode cX4_quotient 164 = .ok (.iload 10, 2) := by decide +kernel
theorem dX4_quotient_166 : decode cX4_quotient 166 = .ok (.isub, 1) := by decide +kernel
theorem dX4_quotient_167 : decode cX4_quotient 167 = .ok (.iload_n 0, 1) := by decide +kernel
theorem dX4_quotient_168 : decode cX4_quotient 168 = .ok (.lload_n 3, 1) := by decide +kernel
theorem dX4_quotient_169 : decode cX4_quotient 169 = .ok (.invokestatic 24, 3) := by decide +kernel
theorem dX4_quotient_172 : decode cX4_quotient 172 = .ok (.isub, 1) := by decide +kernel
theorem dX4_quotient_173 : decode cX4_quotient 173 = .ok (.iload 11, 2) := by decide +kernel
theorem dX4_quotient_175 : decode cX4_quotient 175 = .ok (.iadd, 1) := by decide +kernel
theorem dX4_quotient_176 : decode cX4_quotient 176 = .ok (.istore 16, 2) := by decide +kernel
theorem dX4_quotient_178 : decode cX4_quotient 178 = .ok (.iload_n 0, 1) := by decide +kernel
theorem dX4_quotient_179 : decode cX4_quotient 179 = .ok (.iload 5, 2) := by decide +kernel
theorem dX4_quotient_181 : decode cX4_quotient 181 = .ok (.lload 12, 2) := by decide +kernel
theorem dX4_quotient_183 : decode cX4_quotient 183 = .ok (.lload 14, 2) := by decide +kernel
theorem dX4_quotient_185 : decode cX4_quotient 185 = .ok (.invokestatic 44, 3) := by decide +kernel
theorem dX4_quotient_188 : decode cX4_quotient 188 = .ok (.iload 16, 2) := by decide +kernel
theorem dX4_quotient_190 : decode cX4_quotient 190 = .ok (.bipush 60, 2) := by decide +kernel
theorem dX4_quotient_192 : decode cX4_quotient 192 = .ok (.isub, 1) := by decide +kernel
theorem dX4_quotient_193 : decode cX4_quotient 193 = .ok (.invokestatic 32, 3) := by decide +kernel
theorem dX4_quotient_196 : decode cX4_quotient 196 = .ok (.lreturn, 1) := by decide +kernel
set_option maxRecDepth 20000 in
theorem ggX4_timesInt_X4_mantissa : GoodIn wsX4_timesInt wsX4_mantissa := goodIn_r _ [8, 9, 10, 7, 11, 12, 13, 14, 15, 16] (by decide +kernel) (by decide +kernel)
set_option maxRecDepth 20000 in
theorem gX4_timesInt_X4_mantissa : GoodIn wsX4_timesInt (va_wsS RX4 21 yX4_mantissa wsX4_mantissa) := goodIn_app (goodIn_of _ (by decide +kernel)) ggX4_timesInt_X4_mantissa
set_option maxRecDepth 20000 in
theorem ggX4_timesInt_X4_exponent : GoodIn wsX4_timesInt wsX4_exponent := goodIn_r _ [19, 20, 21, 3, 22, 12, 13, 7, 14, 15, 16, 9, 10, 11, 23, 24, 25] (by decide +kernel) (by decide +kernel)
set_option maxRecDepth 20000 in
theorem gX4_timesInt_X4_exponent : GoodIn wsX4_timesInt (va_wsS RX4 24 yX4_exponent wsX4_exponent) := goodIn_app (goodIn_of _ (by decide +kernel)) ggX4_timesInt_X4_exponent
set_option maxRecDepth 20000 in
theorem ggX4_timesInt_X4_nearest : GoodIn wsX4_timesInt wsX4_nearest := goodIn_r _ [28, 20, 21, 3, 22, 29, 30, 7, 31, 32, 33, 23, 24, 25, 34, 35, 36, 37, 38, 39, 40, 41, 42, 43, 44, 45, 9, 10, 11, 46, 47, 48, 49, 50, 51, 52, 53] (by decide +kernel) (by decide +kernel)
set_option maxRecDepth 20000 in
theorem gX4_timesInt_X4_nearest : GoodIn wsX4_timesInt (va_wsS RX4 32 yX4_nearest wsX4_nearest) := goodIn_app (goodIn_of _ (by decide +kernel)) ggX4_timesInt_X4_nearest
theorem dX4_timesInt_0 : decode cX4_timesInt 0 = .ok (.lload_n 0, 1) := by decide +kernel
theorem dX4_timesInt_1 : decode cX4_timesInt 1 = .ok (.lconst 0, 1) := by decide +kernel
theorem dX4_timesInt_2 : decode cX4_timesInt 2 = .ok (.lcmp, 1) := by decide +kernel
theorem dX4_timesInt_3 : decode cX4_timesInt 3 = .ok (.ifCond .ge 7, 3) := by decide +kernel
theorem dX4_timesInt_6 : decode cX4_timesInt 6 = .ok (.iconst 1, 1) := by decide +kernel
theorem dX4_timesInt_7 : decode cX4_timesInt 7 = .ok (.goto 4, 3) := by decide +kernel
theorem dX4_timesInt_10 : decode cX4_timesInt 10 = .ok (.iconst 0, 1) := by decide +kernel
theorem dX4_timesInt_11 : decode cX4_timesInt 11 = .ok (.iload_n 2, 1) := by decide +kernel
theorem dX4_timesInt_12 : decode cX4_timesInt 12 = .ok (.ifCond .ge 7, 3) := by decide +kernel
theorem dX4_timesInt_15 : decode cX4_timesInt 15 = .ok (.iconst 1, 1) := by decide +kernel
theorem dX4_timesInt_16 : decode cX4_timesInt 16 = .ok (.goto 4, 3) := by decide +kernel
theorem dX4_timesInt_19 : decode cX4_timesInt 19 = .ok (.iconst 0, 1) := by decide +kernel
theorem dX4_timesInt_20 : decode cX4_timesInt 20 = .ok (.if_icmp .eq 7, 3) := by decide +kernel
theorem dX4_timesInt_23 : decode cX4_timesInt 23 = .ok (.iconst 1, 1) := by decide +kernel
theorem dX4_timesInt_24 : decode cX4_timesInt 24 = .ok (.goto 4, 3) := by decide +kernel
theorem dX4_timesInt_27 : decode cX4_timesInt 27 = .ok (.iconst 0, 1) := by decide +kernel
theorem dX4_timesInt_28 : decode cX4_timesInt 28 = .ok (.istore_n 3, 1) := by decide +kernel
theorem dX4_timesInt_29 : decode cX4_timesInt 29 = .ok (.iconst 1, 1) := by decide +kernel
theorem dX4_timesInt_30 : decode cX4_timesInt 30 = .ok (.iload_n 3, 1) := by decide +kernel
theorem dX4_timesInt_31 : decode cX4_timesInt 31 = .ok (.iconst 1, 1) := by decide +kernel
theorem dX4_timesInt_32 : decode cX4_timesInt 32 = .ok (.lload_n 0, 1) := by decide +kernel
theorem dX4_timesInt_33 : decode cX4_timesInt 33 = .ok (.invokestatic 21, 3) := by decide +kernel
theorem dX4_timesInt_36 : decode cX4_timesInt 36 = .ok (.iload_n 2, 1) := by decide +kernel
theorem dX4_timesInt_37 : decode cX4_timesInt 37 = .ok (.i2l, 1) := by decide +kernel
theorem dX4_timesInt_38 : decode cX4_timesInt 38 = .ok (.invokestatic 48, 3) := by decide +kernel
theorem dX4_timesInt_41 : decode cX4_timesInt 41 = .ok (.lmul, 1) := by decide +kernel
theorem dX4_timesInt_42 : decode cX4_timesInt 42 = .ok (.iconst 1, 1) := by decide +kernel
theorem dX4_timesInt_43 : decode cX4_timesInt 43 = .ok (.lload_n 0, 1) := by decide +kernel
theorem dX4_timesInt_44 : decode cX4_timesInt 44 = .ok (.invokestatic 24, 3) := by decide +kernel
theorem dX4_timesInt_47 : decode cX4_timesInt 47 = .ok (.invokestatic 32, 3) := by decide +kernel
theorem dX4_timesInt_50 : decode cX4_timesInt 50 = .ok (.lreturn, 1) := by decide +kernel
set_option maxRecDepth 20000 in
theorem ggX4_leftOver_X4_mantissa : GoodIn wsX4_leftOver wsX4_mantissa := goodIn_r _ [11, 12, 13, 10, 14, 15, 16, 17, 18, 19] (by decide +kernel) (by decide +kernel)
set_option maxRecDepth 20000 in
theorem gX4_leftOver_X4_mantissa : GoodIn wsX4_leftOver (va_wsS RX4 21 yX4_mantissa wsX4_mantissa) := goodIn_app (goodIn_of _ (by decide +kernel)) ggX4_leftOver_X4_mantissa
set_option maxRecDepth 20000 in
theorem ggX4_leftOver_X4_sizeOf : GoodIn wsX4_leftOver wsX4_sizeOf := goodIn_r _ [17, 18, 19] (by decide +kernel) (by decide +kernel)
set_option maxRecDepth 20000 in
theorem gX4_leftOver_X4_sizeOf : GoodIn wsX4_leftOver (va_wsS RX4 7 yX4_sizeOf wsX4_sizeOf) := goodIn_app (goodIn_of _ (by decide +kernel)) ggX4_leftOver_X4_sizeOf
set_option maxRecDepth 20000 in
theorem ggX4_leftOver_J13_numberOfLeadingZeros_95d88 : GoodIn wsX4_leftOver wsJ13_numberOfLeadingZeros_95d88 := goodIn_r _ [23, 24, 25, 26, 27, 28] (by decide +kernel) (by decide +kernel)
set_option maxRecDepth 20000 in
theorem gX4_leftOver_J13_numberOfLeadingZeros_95d88 : GoodIn wsX4_leftOver (va_wsS RX4 54 yJ13_numberOfLeadingZeros_95d88 wsJ13_numberOfLeadingZeros_95d88) := goodIn_app (goodIn_of _ (by decide +kernel)) ggX4_leftOver_J13_numberOfLeadingZeros_95d88
set_option maxRecDepth 20000 in
theorem ggX4_leftOver_X4_exponent : GoodIn wsX4_leftOver wsX4_exponent := goodIn_r _ [31, 1, 2, 3, 4, 15, 16, 10, 17, 18, 19, 12, 13, 14, 32, 33, 34] (by decide +kernel) (by decide +kernel)
set_option maxRecDepth 20000 in
theorem gX4_leftOver_X4_exponent : GoodIn wsX4_leftOver (va_wsS RX4 24 yX4_exponent wsX4_exponent) := goodIn_app (goodIn_of _ (by decide +kernel)) ggX4_leftOver_X4_exponent
set_option maxRecDepth 20000 in
theorem ggX4_leftOver_X4_nearest : GoodIn wsX4_leftOver wsX4_nearest := goodIn_r _ [37, 1, 2, 3, 4, 38, 39, 10, 40, 41, 42, 32, 33, 34, 43, 44, 45, 20, 21, 22, 23, 24, 25, 26, 27, 28, 12, 13, 14, 46, 47, 48, 49, 50, 51, 52, 53] (by decide +kernel) (by decide +kernel)
set_option maxRecDepth 20000 in
theorem gX4_leftOver_X4_nearest : GoodIn wsX4_leftOver (va_wsS RX4 32 yX4_nearest wsX4_nearest) := goodIn_app (goodIn_of _ (by decide +kernel)) ggX4_leftOver_X4_nearest
theorem dX4_leftOver_0 : decode cX4_leftOver 0 = .ok (.iload_n 0, 1) := by decide +kernel
theorem dX4_leftOver_1 : decode cX4_leftOver 1 = .ok (.lload_n 3, 1) := by decide +kernel
theorem dX4_leftOver_2 : decode cX4_leftOver 2 = .ok (.invokestatic 21, 3) := by decide +kernel
theorem dX4_leftOver_5 : decode cX4_leftOver 5 = .ok (.lstore 5, 2) := by decide +kernel
theorem dX4_leftOver_7 : decode cX4_leftOver 7 = .ok (.lload 5, 2) := by decide +kernel
theorem dX4_leftOver_9 : decode cX4_leftOver 9 = .ok (.lconst 0, 1) := by decide +kernel
theorem dX4_leftOver_10 : decode cX4_leftOver 10 = .ok (.lcmp, 1) := by decide +kernel
theorem dX4_leftOver_11 : decode cX4_leftOver 11 = .ok (.ifCond .eq 17, 3) := by decide +kernel
theorem dX4_leftOver_14 : decode cX4_leftOver 14 = .ok (.iload_n 0, 1) := by decide +kernel
theorem dX4_leftOver_15 : decode cX4_leftOver 15 = .ok (.lload_n 1, 1) := by decide +kernel
theorem dX4_leftOver_16 : decode cX4_leftOver 16 = .ok (.invokestatic 7, 3) := by decide +kernel
theorem dX4_leftOver_19 : decode cX4_leftOver 19 = .ok (.iload_n 0, 1) := by decide +kernel
theorem dX4_leftOver_20 : decode cX4_leftOver 20 = .ok (.lload_n 3, 1) := by decide +kernel
theorem dX4_leftOver_21 : decode cX4_leftOver 21 = .ok (.invokestatic 7, 3) := by decide +kernel
theorem dX4_leftOver_24 : decode cX4_leftOver 24 = .ok (.lcmp, 1) := by decide +kernel
theorem dX4_leftOver_25 : decode cX4_leftOver 25 = .ok (.ifCond .ge 5, 3) := by decide +kernel
theorem dX4_leftOver_28 : decode cX4_leftOver 28 = .ok (.lload_n 1, 1) := by decide +kernel
theorem dX4_leftOver_29 : decode cX4_leftOver 29 = .ok (.lreturn, 1) := by decide +kernel
theorem dX4_leftOver_30 : decode cX4_leftOver 30 = .ok (.iload_n 0, 1) := by decide +kernel
theorem dX4_leftOver_31 : decode cX4_leftOver 31 = .ok (.lload_n 1, 1) := by decide +kernel
theorem dX4_leftOver_32 : decode cX4_leftOver 32 = .ok (.invokestatic 21, 3) := by decide +kernel
theorem dX4_leftOver_35 : decode cX4_leftOver 35 = .ok (.lload 5, 2) := by decide +kernel
theorem dX4_leftOver_37 : decode cX4_leftOver 37 = .ok (.lrem, 1) := by decide +kernel
theorem dX4_leftOver_38 : decode cX4_leftOver 38 = .ok (.lstore 7, 2) := by decide +kernel
theorem dX4_leftOver_40 : decode cX4_leftOver 40 = .ok (.bipush 10, 2) := by decide +kernel
theorem dX4_leftOver_42 : decode cX4_leftOver 42 = .ok (.lload 5, 2) := by decide +kernel
theorem dX4_leftOver_44 : decode cX4_leftOver 44 = .ok (.invokestatic 54, 3) := by decide +kernel
theorem dX4_leftOver_47 : decode cX4_leftOver 47 = .ok (.iconst 1, 1) := by decide +kernel
theorem dX4_leftOver_48 : decode cX4_leftOver 48 = .ok (.isub, 1) := by decide +kernel
theorem dX4_leftOver_49 : decode cX4_leftOver 49 = .ok (.invokestatic 57, 3) := by decide +kernel
theorem dX4_leftOver_52 : decode cX4_leftOver 52 = .ok (.istore 9, 2) := by decide +kernel
theorem dX4_leftOver_54 : decode cX4_leftOver 54 = .ok (.iload_n 0, 1) := by decide +kernel
theorem dX4_leftOver_55 : decode cX4_leftOver 55 = .ok (.lload_n 1, 1) := by decide +kernel
theorem dX4_leftOver_56 : decode cX4_leftOver 56 = .ok (.invokestatic 24, 3) := by decide +kernel
theorem dX4_leftOver_59 : decode cX4_leftOver 59 = .ok (.iload_n 0, 1) := by decide +kernel
theorem dX4_leftOver_60 : decode cX4_leftOver 60 = .ok (.lload_n 3, 1) := by decide +kernel
theorem dX4_leftOver_61 : decode cX4_leftOver 61 = .ok (.invokestatic 24, 3) := by decide +kernel
theorem dX4_leftOver_64 : decode cX4_leftOver 64 = .ok (.isub, 1) := by decide +kernel
theorem dX4_leftOver_65 : decode cX4_leftOver 65 = .ok (.istore 10, 2) := by decide +kernel
theorem dX4_leftOver_67 : decode cX4_leftOver 67 = .ok (.iload 10, 2) := by decide +kernel
theorem dX4_leftOver_69 : decode cX4_leftOver 69 = .ok (.ifCond .le 28, 3) := by decide +kernel
theorem dX4_leftOver_72 : decode cX4_leftOver 72 = .ok (.lload 7, 2) := by decide +kernel
theorem dX4_leftOver_74 : decode cX4_leftOver 74 = .ok (.iload 9, 2) := by decide +kernel
theorem dX4_leftOver_76 : decode cX4_leftOver 76 = .ok (.iload 10, 2) := by decide +kernel
theorem dX4_leftOver_78 : decode cX4_leftOver 78 = .ok (.invokestatic 61, 3) := by decide +kernel
theorem dX4_leftOver_81 : decode cX4_leftOver 81 = .ok (.lshl, 1) := by decide +kernel
theorem dX4_leftOver_82 : decode cX4_leftOver 82 = .ok (.lload 5, 2) := by decide +kernel
theorem dX4_leftOver_84 : decode cX4_leftOver 84 = .ok (.lrem, 1) := by decide +kernel
theorem dX4_leftOver_85 : decode cX4_leftOver 85 = .ok (.lstore 7, 2) := by decide +kernel
theorem dX4_leftOver_87 : decode cX4_leftOver 87 = .ok (.iload 10, 2) := by decide +kernel
theorem dX4_leftOver_89 : decode cX4_leftOver 89 = .ok (.iload 9, 2) := by decide +kernel
theorem dX4_leftOver_91 : decode cX4_leftOver 91 = .ok (.isub, 1) := by decide +kernel
theorem dX4_leftOver_92 : decode cX4_leftOver 92 = .ok (.istore 10, 2) := by decide +kernel
theorem dX4_leftOver_94 : decode cX4_leftOver 94 = .ok (.goto (-27), 3) := by decide +kernel
theorem dX4_leftOver_97 : decode cX4_leftOver 97 = .ok (.iload_n 0, 1) := by decide +kernel
theorem dX4_leftOver_98 : decode cX4_leftOver 98 = .ok (.lload_n 1, 1) := by decide +kernel
theorem dX4_leftOver_99 : decode cX4_leftOver 99 = .ok (.lconst 0, 1) := by decide +kernel
theorem dX4_leftOver_100 : decode cX4_leftOver 100 = .ok (.lcmp, 1) := by decide +kernel
theorem dX4_leftOver_101 : decode cX4_leftOver 101 = .ok (.ifCond .ge 7, 3) := by decide +kernel
theorem dX4_leftOver_104 : decode cX4_leftOver 104 = .ok (.iconst 1, 1) := by decide +kernel
theorem dX4_leftOver_105 : decode cX4_leftOver 105 = .ok (.goto 4, 3) := by decide +kernel
theorem dX4_leftOver_108 : decode cX4_leftOver 108 = .ok (.iconst 0, 1) := by decide +kernel
theorem dX4_leftOver_109 : decode cX4_leftOver 109 = .ok (.lload 7, 2) := by decide +kernel
theorem dX4_leftOver_111 : decode cX4_leftOver 111 = .ok (.iload_n 0, 1) := by decide +kernel
theorem dX4_leftOver_112 : decode cX4_leftOver 112 = .ok (.lload_n 3, 1) := by decide +kernel
theorem dX4_leftOver_113 : decode cX4_leftOver 113 = .ok (.invokestatic 24, 3) := by decide +kernel
theorem dX4_leftOver_116 : decode cX4_leftOver 116 = .ok (.invokestatic 32, 3) := by decide +kernel
theorem dX4_leftOver_119 : decode cX4_leftOver 119 = .ok (.lreturn, 1) := by decide +kernel
set_option maxRecDepth 20000 in
theorem ggX4_ofLong_X4_nearest : GoodIn wsX4_ofLong wsX4_nearest := goodIn_r _ [8, 9, 10, 3, 11, 12, 13, 7, 14, 15, 16, 17, 18, 19, 20, 21, 22, 23, 24, 25, 26, 27, 28, 29, 30, 31, 32, 33, 34, 35, 36, 37, 38, 39, 40, 41, 42] (by decide +kernel) (by decide +kernel)
set_option maxRecDepth 20000 in
theorem gX4_ofLong_X4_nearest : GoodIn wsX4_ofLong (va_wsS RX4 32 yX4_nearest wsX4_nearest) := goodIn_app (goodIn_of _ (by decide +kernel)) ggX4_ofLong_X4_nearest
theorem dX4_ofLong_0 : decode cX4_ofLong 0 = .ok (.iload_n 0, 1) := by decide +kernel
theorem dX4_ofLong_1 : decode cX4_ofLong 1 = .ok (.lload_n 1, 1) := by decide +kernel
theorem dX4_ofLong_2 : decode cX4_ofLong 2 = .ok (.lconst 0, 1) := by decide +kernel
theorem dX4_ofLong_3 : decode cX4_ofLong 3 = .ok (.lcmp, 1) := by decide +kernel
theorem dX4_ofLong_4 : decode cX4_ofLong 4 = .ok (.ifCond .ge 7, 3) := by decide +kernel
theorem dX4_ofLong_7 : decode cX4_ofLong 7 = .ok (.iconst 1, 1) := by decide +kernel
theorem dX4_ofLong_8 : decode cX4_ofLong 8 = .ok (.goto 4, 3) := by decide +kernel
theorem dX4_ofLong_11 : decode cX4_ofLong 11 = .ok (.iconst 0, 1) := by decide +kernel
theorem dX4_ofLong_12 : decode cX4_ofLong 12 = .ok (.lload_n 1, 1) := by decide +kernel
theorem dX4_ofLong_13 : decode cX4_ofLong 13 = .ok (.invokestatic 48, 3) := by decide +kernel
theorem dX4_ofLong_16 : decode cX4_ofLong 16 = .ok (.iconst 0, 1) := by decide +kernel
theorem dX4_ofLong_17 : decode cX4_ofLong 17 = .ok (.invokestatic 32, 3) := by decide +kernel
theorem dX4_ofLong_20 : decode cX4_ofLong 20 = .ok (.lreturn, 1) := by decide +kernel
set_option maxRecDepth 20000 in
theorem ggX4_ofReal_X4_isFit : GoodIn wsX4_ofReal wsX4_isFit := goodIn_r _ [4, 5, 6, 3, 7, 8, 9, 10, 11, 12, 13, 14] (by decide +kernel) (by decide +kernel)
set_option maxRecDepth 20000 in
theorem gX4_ofReal_X4_isFit : GoodIn wsX4_ofReal (va_wsS RX4 64 yX4_isFit wsX4_isFit) := goodIn_app (goodIn_of _ (by decide +kernel)) ggX4_ofReal_X4_isFit
set_option maxRecDepth 20000 in
theorem ggX4_ofReal_X4_endless : GoodIn wsX4_ofReal wsX4_endless := goodIn_r _ [12, 13, 14] (by decide +kernel) (by decide +kernel)
set_option maxRecDepth 20000 in
theorem gX4_ofReal_X4_endless : GoodIn wsX4_ofReal (va_wsS RX4 13 yX4_endless wsX4_endless) := goodIn_app (goodIn_of _ (by decide +kernel)) ggX4_ofReal_X4_endless
set_option maxRecDepth 20000 in
theorem ggX4_ofReal_X4_signed : GoodIn wsX4_ofReal wsX4_signed := goodIn_r _ [17, 18, 19] (by decide +kernel) (by decide +kernel)
set_option maxRecDepth 20000 in
theorem gX4_ofReal_X4_signed : GoodIn wsX4_ofReal (va_wsS RX4 36 yX4_signed wsX4_signed) := goodIn_app (goodIn_of _ (by decide +kernel)) ggX4_ofReal_X4_signed
set_option maxRecDepth 20000 in
theorem ggX4_ofReal_X4_mantissa : GoodIn wsX4_ofReal wsX4_mantissa := goodIn_r _ [22, 23, 24, 3, 25, 5, 6, 7, 8, 9] (by decide +kernel) (by decide +kernel)
set_option maxRecDepth 20000 in
theorem gX4_ofReal_X4_mantissa : GoodIn wsX4_ofReal (va_wsS RX4 21 yX4_mantissa wsX4_mantissa) := goodIn_app (goodIn_of _ (by decide +kernel)) ggX4_ofReal_X4_mantissa
set_option maxRecDepth 20000 in
theorem ggX4_ofReal_X4_exponent : GoodIn wsX4_ofReal wsX4_exponent := goodIn_r _ [28, 29, 30, 31, 32, 5, 6, 3, 7, 8, 9, 23, 24, 25, 33, 34, 35] (by decide +kernel) (by decide +kernel)
set_option maxRecDepth 20000 in
theorem gX4_ofReal_X4_exponent : GoodIn wsX4_ofReal (va_wsS RX4 24 yX4_exponent wsX4_exponent) := goodIn_app (goodIn_of _ (by decide +kernel)) ggX4_ofReal_X4_exponent
set_option maxRecDepth 20000 in
theorem ggX4_ofReal_X4_nearest : GoodIn wsX4_ofReal wsX4_nearest := goodIn_r _ [38, 29, 30, 31, 32, 15, 16, 3, 17, 18, 19, 33, 34, 35, 39, 40, 41, 42, 43, 44, 45, 46, 47, 48, 49, 50, 23, 24, 25, 10, 11, 12, 13, 14, 51, 52, 53] (by decide +kernel) (by decide +kernel)
set_option maxRecDepth 20000 in
theorem gX4_ofReal_X4_nearest : GoodIn wsX4_ofReal (va_wsS RX4 32 yX4_nearest wsX4_nearest) := goodIn_app (goodIn_of _ (by decide +kernel)) ggX4_ofReal_X4_nearest
theorem dX4_ofReal_0 : decode cX4_ofReal 0 = .ok (.iload_n 0, 1) := by decide +kernel
theorem dX4_ofReal_1 : decode cX4_ofReal 1 = .ok (.lload_n 2, 1) := by decide +kernel
theorem dX4_ofReal_2 : decode cX4_ofReal 2 = .ok (.invokestatic 64, 3) := by decide +kernel
theorem dX4_ofReal_5 : decode cX4_ofReal 5 = .ok (.ifCond .ne 23, 3) := by decide +kernel
theorem dX4_ofReal_8 : decode cX4_ofReal 8 = .ok (.iload_n 1, 1) := by decide +kernel
theorem dX4_ofReal_9 : decode cX4_ofReal 9 = .ok (.lload_n 2, 1) := by decide +kernel
theorem dX4_ofReal_10 : decode cX4_ofReal 10 = .ok (.lconst 0, 1) := by decide +kernel
theorem dX4_ofReal_11 : decode cX4_ofReal 11 = .ok (.lcmp, 1) := by decide +kernel
theorem dX4_ofReal_12 : decode cX4_ofReal 12 = .ok (.ifCond .ge 7, 3) := by decide +kernel
theorem dX4_ofReal_15 : decode cX4_ofReal 15 = .ok (.iconst 1, 1) := by decide +kernel
theorem dX4_ofReal_16 : decode cX4_ofReal 16 = .ok (.goto 4, 3) := by decide +kernel
theorem dX4_ofReal_19 : decode cX4_ofReal 19 = .ok (.iconst 0, 1) := by decide +kernel
theorem dX4_ofReal_20 : decode cX4_ofReal 20 = .ok (.iload_n 1, 1) := by decide +kernel
theorem dX4_ofReal_21 : decode cX4_ofReal 21 = .ok (.invokestatic 13, 3) := by decide +kernel
theorem dX4_ofReal_24 : decode cX4_ofReal 24 = .ok (.invokestatic 36, 3) := by decide +kernel
theorem dX4_ofReal_27 : decode cX4_ofReal 27 = .ok (.lreturn, 1) := by decide +kernel
theorem dX4_ofReal_28 : decode cX4_ofReal 28 = .ok (.iload_n 1, 1) := by decide +kernel
theorem dX4_ofReal_29 : decode cX4_ofReal 29 = .ok (.lload_n 2, 1) := by decide +kernel
theorem dX4_ofReal_30 : decode cX4_ofReal 30 = .ok (.lconst 0, 1) := by decide +kernel
theorem dX4_ofReal_31 : decode cX4_ofReal 31 = .ok (.lcmp, 1) := by decide +kernel
theorem dX4_ofReal_32 : decode cX4_ofReal 32 = .ok (.ifCond .ge 7, 3) := by decide +kernel
theorem dX4_ofReal_35 : decode cX4_ofReal 35 = .ok (.iconst 1, 1) := by decide +kernel
theorem dX4_ofReal_36 : decode cX4_ofReal 36 = .ok (.goto 4, 3) := by decide +kernel
theorem dX4_ofReal_39 : decode cX4_ofReal 39 = .ok (.iconst 0, 1) := by decide +kernel
theorem dX4_ofReal_40 : decode cX4_ofReal 40 = .ok (.iload_n 0, 1) := by decide +kernel
theorem dX4_ofReal_41 : decode cX4_ofReal 41 = .ok (.lload_n 2, 1) := by decide +kernel
theorem dX4_ofReal_42 : decode cX4_ofReal 42 = .ok (.invokestatic 21, 3) := by decide +kernel
theorem dX4_ofReal_45 : decode cX4_ofReal 45 = .ok (.iload_n 0, 1) := by decide +kernel
theorem dX4_ofReal_46 : decode cX4_ofReal 46 = .ok (.lload_n 2, 1) := by decide +kernel
theorem dX4_ofReal_47 : decode cX4_ofReal 47 = .ok (.invokestatic 24, 3) := by decide +kernel
theorem dX4_ofReal_50 : decode cX4_ofReal 50 = .ok (.invokestatic 32, 3) := by decide +kernel
theorem dX4_ofReal_53 : decode cX4_ofReal 53 = .ok (.lreturn, 1) := by decide +kernel
set_option maxRecDepth 20000 in
theorem ggX4_cutToLong_X4_mantissa : GoodIn wsX4_cutToLong wsX4_mantissa := goodIn_r _ [6, 7, 8, 5, 9, 10, 11, 12, 2, 13] (by decide +kernel) (by decide +kernel)
set_option maxRecDepth 20000 in
theorem gX4_cutToLong_X4_mantissa : GoodIn wsX4_cutToLong (va_wsS RX4 21 yX4_mantissa wsX4_mantissa) := goodIn_app (goodIn_of _ (by decide +kernel)) ggX4_cutToLong_X4_mantissa
set_option maxRecDepth 20000 in
theorem ggX4_cutToLong_X4_exponent : GoodIn wsX4_cutToLong wsX4_exponent := goodIn_r _ [16, 17, 18, 19, 20, 10, 11, 5, 12, 2, 13, 7, 8, 9, 21, 22, 23] (by decide +kernel) (by decide +kernel)
set_option maxRecDepth 20000 in
theorem gX4_cutToLong_X4_exponent : GoodIn wsX4_cutToLong (va_wsS RX4 24 yX4_exponent wsX4_exponent) := goodIn_app (goodIn_of _ (by decide +kernel)) ggX4_cutToLong_X4_exponent
set_option maxRecDepth 20000 in
theorem ggX4_cutToLong_X4_lengthOf : GoodIn wsX4_cutToLong wsX4_lengthOf := goodIn_r _ [26, 27, 28, 29, 30, 31, 32, 33, 34, 35] (by decide +kernel) (by decide +kernel)
set_option maxRecDepth 20000 in
theorem gX4_cutToLong_X4_lengthOf : GoodIn wsX4_cutToLong (va_wsS RX4 40 yX4_lengthOf wsX4_lengthOf) := goodIn_app (goodIn_of _ (by decide +kernel)) ggX4_cutToLong_X4_lengthOf
theorem dX4_cutToLong_0 : decode cX4_cutToLong 0 = .ok (.iload_n 0, 1) := by decide +kernel
theorem dX4_cutToLong_1 : decode cX4_cutToLong 1 = .ok (.lload_n 1, 1) := by decide +kernel
theorem dX4_cutToLong_2 : decode cX4_cutToLong 2 = .ok (.invokestatic 21, 3) := by decide +kernel
theorem dX4_cutToLong_5 : decode cX4_cutToLong 5 = .ok (.lstore_n 3, 1) := by decide +kernel
theorem dX4_cutToLong_6 : decode cX4_cutToLong 6 = .ok (.iload_n 0, 1) := by decide +kernel
theorem dX4_cutToLong_7 : decode cX4_cutToLong 7 = .ok (.lload_n 1, 1) := by decide +kernel
theorem dX4_cutToLong_8 : decode cX4_cutToLong 8 = .ok (.invokestatic 24, 3) := by decide +kernel
theorem dX4_cutToLong_11 : decode cX4_cutToLong 11 = .ok (.istore 5, 2) := by decide +kernel
theorem dX4_cutToLong_13 : decode cX4_cutToLong 13 = .ok (.lload_n 3, 1) := by decide +kernel
theorem dX4_cutToLong_14 : decode cX4_cutToLong 14 = .ok (.invokestatic 40, 3) := by decide +kernel
theorem dX4_cutToLong_17 : decode cX4_cutToLong 17 = .ok (.iload 5, 2) := by decide +kernel
theorem dX4_cutToLong_19 : decode cX4_cutToLong 19 = .ok (.iadd, 1) := by decide +kernel
theorem dX4_cutToLong_20 : decode cX4_cutToLong 20 = .ok (.bipush 63, 2) := by decide +kernel
theorem dX4_cutToLong_22 : decode cX4_cutToLong 22 = .ok (.if_icmp .le 19, 3) := by decide +kernel
theorem dX4_cutToLong_25 : decode cX4_cutToLong 25 = .ok (.lload_n 1, 1) := by decide +kernel
theorem dX4_cutToLong_26 : decode cX4_cutToLong 26 = .ok (.lconst 0, 1) := by decide +kernel
theorem dX4_cutToLong_27 : decode cX4_cutToLong 27 = .ok (.lcmp, 1) := by decide +kernel
theorem dX4_cutToLong_28 : decode cX4_cutToLong 28 = .ok (.ifCond .ge 9, 3) := by decide +kernel
theorem dX4_cutToLong_31 : decode cX4_cutToLong 31 = .ok (.ldc2_w 19, 3) := by decide +kernel
theorem dX4_cutToLong_34 : decode cX4_cutToLong 34 = .ok (.goto 6, 3) := by decide +kernel
theorem dX4_cutToLong_37 : decode cX4_cutToLong 37 = .ok (.ldc2_w 68, 3) := by decide +kernel
theorem dX4_cutToLong_40 : decode cX4_cutToLong 40 = .ok (.lreturn, 1) := by decide +kernel
theorem dX4_cutToLong_41 : decode cX4_cutToLong 41 = .ok (.iload 5, 2) := by decide +kernel
theorem dX4_cutToLong_43 : decode cX4_cutToLong 43 = .ok (.bipush (-64), 2) := by decide +kernel
theorem dX4_cutToLong_45 : decode cX4_cutToLong 45 = .ok (.if_icmp .gt 5, 3) := by decide +kernel
theorem dX4_cutToLong_48 : decode cX4_cutToLong 48 = .ok (.lconst 0, 1) := by decide +kernel
theorem dX4_cutToLong_49 : decode cX4_cutToLong 49 = .ok (.lreturn, 1) := by decide +kernel
theorem dX4_cutToLong_50 : decode cX4_cutToLong 50 = .ok (.iload 5, 2) := by decide +kernel
theorem dX4_cutToLong_52 : decode cX4_cutToLong 52 = .ok (.ifCond .ge 11, 3) := by decide +kernel
theorem dX4_cutToLong_55 : decode cX4_cutToLong 55 = .ok (.lload_n 3, 1) := by decide +kernel
theorem dX4_cutToLong_56 : decode cX4_cutToLong 56 = .ok (.iload 5, 2) := by decide +kernel
theorem dX4_cutToLong_58 : decode cX4_cutToLong 58 = .ok (.ineg, 1) := by decide +kernel
theorem dX4_cutToLong_59 : decode cX4_cutToLong 59 = .ok (.lushr, 1) := by decide +kernel
theorem dX4_cutToLong_60 : decode cX4_cutToLong 60 = .ok (.goto 7, 3) := by decide +kernel
theorem dX4_cutToLong_63 : decode cX4_cutToLong 63 = .ok (.lload_n 3, 1) := by decide +kernel
theorem dX4_cutToLong_64 : decode cX4_cutToLong 64 = .ok (.iload 5, 2) := by decide +kernel
theorem dX4_cutToLong_66 : decode cX4_cutToLong 66 = .ok (.lshl, 1) := by decide +kernel
theorem dX4_cutToLong_67 : decode cX4_cutToLong 67 = .ok (.lstore 6, 2) := by decide +kernel
theorem dX4_cutToLong_69 : decode cX4_cutToLong 69 = .ok (.lload_n 1, 1) := by decide +kernel
theorem dX4_cutToLong_70 : decode cX4_cutToLong 70 = .ok (.lconst 0, 1) := by decide +kernel
theorem dX4_cutToLong_71 : decode cX4_cutToLong 71 = .ok (.lcmp, 1) := by decide +kernel
theorem dX4_cutToLong_72 : decode cX4_cutToLong 72 = .ok (.ifCond .ge 9, 3) := by decide +kernel
theorem dX4_cutToLong_75 : decode cX4_cutToLong 75 = .ok (.lload 6, 2) := by decide +kernel
theorem dX4_cutToLong_77 : decode cX4_cutToLong 77 = .ok (.lneg, 1) := by decide +kernel
theorem dX4_cutToLong_78 : decode cX4_cutToLong 78 = .ok (.goto 5, 3) := by decide +kernel
theorem dX4_cutToLong_81 : decode cX4_cutToLong 81 = .ok (.lload 6, 2) := by decide +kernel
theorem dX4_cutToLong_83 : decode cX4_cutToLong 83 = .ok (.lreturn, 1) := by decide +kernel
set_option maxRecDepth 20000 in
theorem ggX4_nearest_X4_signed : GoodIn wsX4_nearest wsX4_signed := goodIn_r _ [8, 9, 10] (by decide +kernel) (by decide +kernel)
set_option maxRecDepth 20000 in
theorem gX4_nearest_X4_signed : GoodIn wsX4_nearest (va_wsS RX4 36 yX4_signed wsX4_signed) := goodIn_app (goodIn_of _ (by decide +kernel)) ggX4_nearest_X4_signed
set_option maxRecDepth 20000 in
theorem ggX4_nearest_X4_leastExponent : GoodIn wsX4_nearest wsX4_leastExponent := goodIn_r _ [13] (by decide +kernel) (by decide +kernel)
set_option maxRecDepth 20000 in
theorem gX4_nearest_X4_leastExponent : GoodIn wsX4_nearest (va_wsS RX4 70 yX4_leastExponent wsX4_leastExponent) := goodIn_app (goodIn_of _ (by decide +kernel)) ggX4_nearest_X4_leastExponent
set_option maxRecDepth 20000 in
theorem ggX4_nearest_X4_lengthOf : GoodIn wsX4_nearest wsX4_lengthOf := goodIn_r _ [16, 17, 18, 19, 20, 21, 22, 23, 24, 25] (by decide +kernel) (by decide +kernel)
set_option maxRecDepth 20000 in
theorem gX4_nearest_X4_lengthOf : GoodIn wsX4_nearest (va_wsS RX4 40 yX4_lengthOf wsX4_lengthOf) := goodIn_app (goodIn_of _ (by decide +kernel)) ggX4_nearest_X4_lengthOf
set_option maxRecDepth 20000 in
theorem ggX4_nearest_X4_width : GoodIn wsX4_nearest wsX4_width := goodIn_r _ [28] (by decide +kernel) (by decide +kernel)
set_option maxRecDepth 20000 in
theorem gX4_nearest_X4_width : GoodIn wsX4_nearest (va_wsS RX4 74 yX4_width wsX4_width) := goodIn_app (goodIn_of _ (by decide +kernel)) ggX4_nearest_X4_width
set_option maxRecDepth 20000 in
theorem ggX4_nearest_X4_endless : GoodIn wsX4_nearest wsX4_endless := goodIn_r _ [31, 32, 33] (by decide +kernel) (by decide +kernel)
set_option maxRecDepth 20000 in
theorem gX4_nearest_X4_endless : GoodIn wsX4_nearest (va_wsS RX4 13 yX4_endless wsX4_endless) := goodIn_app (goodIn_of _ (by decide +kernel)) ggX4_nearest_X4_endless
set_option maxRecDepth 20000 in
theorem ggX4_nearest_X4_rounded : GoodIn wsX4_nearest wsX4_rounded := goodIn_r _ [36] (by decide +kernel) (by decide +kernel)
set_option maxRecDepth 20000 in
theorem gX4_nearest_X4_rounded : GoodIn wsX4_nearest (va_wsS RX4 77 yX4_rounded wsX4_rounded) := goodIn_app (goodIn_of _ (by decide +kernel)) ggX4_nearest_X4_rounded
theorem dX4_nearest_0 : decode cX4_nearest 0 = .ok (.lload_n 2, 1) := by decide +kernel
theorem dX4_nearest_1 : decode cX4_nearest 1 = .ok (.lconst 0, 1) := by decide +kernel
theorem dX4_nearest_2 : decode cX4_nearest 2 = .ok (.lcmp, 1) := by decide +kernel
theorem dX4_nearest_3 : decode cX4_nearest 3 = .ok (.ifCond .ne 10, 3) := by decide +kernel
theorem dX4_nearest_6 : decode cX4_nearest 6 = .ok (.iload_n 0, 1) := by decide +kernel
theorem dX4_nearest_7 : decode cX4_nearest 7 = .ok (.iload_n 1, 1) := by decide +kernel
theorem dX4_nearest_8 : decode cX4_nearest 8 = .ok (.lconst 0, 1) := by decide +kernel
theorem dX4_nearest_9 : decode cX4_nearest 9 = .ok (.invokestatic 36, 3) := by decide +kernel
theorem dX4_nearest_12 : decode cX4_nearest 12 = .ok (.lreturn, 1) := by decide +kernel
theorem dX4_nearest_13 : decode cX4_nearest 13 = .ok (.iload_n 0, 1) := by decide +kernel
theorem dX4_nearest_14 : decode cX4_nearest 14 = .ok (.invokestatic 70, 3) := by decide +kernel
theorem dX4_nearest_17 : decode cX4_nearest 17 = .ok (.istore 5, 2) := by decide +kernel
theorem dX4_nearest_19 : decode cX4_nearest 19 = .ok (.iload 4, 2) := by decide +kernel
theorem dX4_nearest_21 : decode cX4_nearest 21 = .ok (.lload_n 2, 1) := by decide +kernel
theorem dX4_nearest_22 : decode cX4_nearest 22 = .ok (.invokestatic 40, 3) := by decide +kernel
theorem dX4_nearest_25 : decode cX4_nearest 25 = .ok (.iadd, 1) := by decide +kernel
theorem dX4_nearest_26 : decode cX4_nearest 26 = .ok (.iconst 1, 1) := by decide +kernel
theorem dX4_nearest_27 : decode cX4_nearest 27 = .ok (.isub, 1) := by decide +kernel
theorem dX4_nearest_28 : decode cX4_nearest 28 = .ok (.iload_n 0, 1) := by decide +kernel
theorem dX4_nearest_29 : decode cX4_nearest 29 = .ok (.invokestatic 74, 3) := by decide +kernel
theorem dX4_nearest_32 : decode cX4_nearest 32 = .ok (.isub, 1) := by decide +kernel
theorem dX4_nearest_33 : decode cX4_nearest 33 = .ok (.iload 5, 2) := by decide +kernel
theorem dX4_nearest_35 : decode cX4_nearest 35 = .ok (.invokestatic 57, 3) := by decide +kernel
theorem dX4_nearest_38 : decode cX4_nearest 38 = .ok (.istore 6, 2) := by decide +kernel
theorem dX4_nearest_40 : decode cX4_nearest 40 = .ok (.iload_n 0, 1) := by decide +kernel
theorem dX4_nearest_41 : decode cX4_nearest 41 = .ok (.invokestatic 13, 3) := by decide +kernel
theorem dX4_nearest_44 : decode cX4_nearest 44 = .ok (.lstore 7, 2) := by decide +kernel
theorem dX4_nearest_46 : decode cX4_nearest 46 = .ok (.iload 6, 2) := by decide +kernel
theorem dX4_nearest_48 : decode cX4_nearest 48 = .ok (.iload 5, 2) := by decide +kernel
theorem dX4_nearest_50 : decode cX4_nearest 50 = .ok (.isub, 1) := by decide +kernel
theorem dX4_nearest_51 : decode cX4_nearest 51 = .ok (.i2l, 1) := by decide +kernel
theorem dX4_nearest_52 : decode cX4_nearest 52 = .ok (.lstore 9, 2) := by decide +kernel
theorem dX4_nearest_54 : decode cX4_nearest 54 = .ok (.lload 9, 2) := by decide +kernel
theorem dX4_nearest_56 : decode cX4_nearest 56 = .ok (.lconst 1, 1) := by decide +kernel
theorem dX4_nearest_57 : decode cX4_nearest 57 = .ok (.ladd, 1) := by decide +kernel
theorem dX4_nearest_58 : decode cX4_nearest 58 = .ok (.lload 7, 2) := by decide +kernel
theorem dX4_nearest_60 : decode cX4_nearest 60 = .ok (.iload_n 0, 1) := by decide +kernel
theorem dX4_nearest_61 : decode cX4_nearest 61 = .ok (.invokestatic 74, 3) := by decide +kernel
theorem dX4_nearest_64 : decode cX4_nearest 64 = .ok (.lushr, 1) := by decide +kernel
theorem dX4_nearest_65 : decode cX4_nearest 65 = .ok (.lcmp, 1) := by decide +kernel
theorem dX4_nearest_66 : decode cX4_nearest 66 = .ok (.ifCond .lt 11, 3) := by decide +kernel
theorem dX4_nearest_69 : decode cX4_nearest 69 = .ok (.iload_n 0, 1) := by decide +kernel
theorem dX4_nearest_70 : decode cX4_nearest 70 = .ok (.iload_n 1, 1) := by decide +kernel
theorem dX4_nearest_71 : decode cX4_nearest 71 = .ok (.lload 7, 2) := by decide +kernel
theorem dX4_nearest_73 : decode cX4_nearest 73 = .ok (.invokestatic 36, 3) := by decide +kernel
theorem dX4_nearest_76 : decode cX4_nearest 76 = .ok (.lreturn, 1) := by decide +kernel
theorem dX4_nearest_77 : decode cX4_nearest 77 = .ok (.lload 9, 2) := by decide +kernel
theorem dX4_nearest_79 : decode cX4_nearest 79 = .ok (.iload_n 0, 1) := by decide +kernel
theorem dX4_nearest_80 : decode cX4_nearest 80 = .ok (.invokestatic 74, 3) := by decide +kernel
theorem dX4_nearest_83 : decode cX4_nearest 83 = .ok (.lshl, 1) := by decide +kernel
theorem dX4_nearest_84 : decode cX4_nearest 84 = .ok (.lload_n 2, 1) := by decide +kernel
theorem dX4_nearest_85 : decode cX4_nearest 85 = .ok (.iload 6, 2) := by decide +kernel
theorem dX4_nearest_87 : decode cX4_nearest 87 = .ok (.iload 4, 2) := by decide +kernel
theorem dX4_nearest_89 : decode cX4_nearest 89 = .ok (.isub, 1) := by decide +kernel
theorem dX4_nearest_90 : decode cX4_nearest 90 = .ok (.invokestatic 77, 3) := by decide +kernel
theorem dX4_nearest_93 : decode cX4_nearest 93 = .ok (.ladd, 1) := by decide +kernel
theorem dX4_nearest_94 : decode cX4_nearest 94 = .ok (.lstore 11, 2) := by decide +kernel
theorem dX4_nearest_96 : decode cX4_nearest 96 = .ok (.iload_n 0, 1) := by decide +kernel
theorem dX4_nearest_97 : decode cX4_nearest 97 = .ok (.iload_n 1, 1) := by decide +kernel
theorem dX4_nearest_98 : decode cX4_nearest 98 = .ok (.lload 11, 2) := by decide +kernel
theorem dX4_nearest_100 : decode cX4_nearest 100 = .ok (.invokestatic 36, 3) := by decide +kernel
theorem dX4_nearest_103 : decode cX4_nearest 103 = .ok (.lreturn, 1) := by decide +kernel
theorem dX4_rounded_0 : decode cX4_rounded 0 = .ok (.iload_n 2, 1) := by decide +kernel
theorem dX4_rounded_1 : decode cX4_rounded 1 = .ok (.ifCond .gt 8, 3) := by decide +kernel
theorem dX4_rounded_4 : decode cX4_rounded 4 = .ok (.lload_n 0, 1) := by decide +kernel
theorem dX4_rounded_5 : decode cX4_rounded 5 = .ok (.iload_n 2, 1) := by decide +kernel
theorem dX4_rounded_6 : decode cX4_rounded 6 = .ok (.ineg, 1) := by decide +kernel
theorem dX4_rounded_7 : decode cX4_rounded 7 = .ok (.lshl, 1) := by decide +kernel
theorem dX4_rounded_8 : decode cX4_rounded 8 = .ok (.lreturn, 1) := by decide +kernel
theorem dX4_rounded_9 : decode cX4_rounded 9 = .ok (.iload_n 2, 1) := by decide +kernel
theorem dX4_rounded_10 : decode cX4_rounded 10 = .ok (.bipush 63, 2) := by decide +kernel
theorem dX4_rounded_12 : decode cX4_rounded 12 = .ok (.if_icmp .le 5, 3) := by decide +kernel
theorem dX4_rounded_15 : decode cX4_rounded 15 = .ok (.lconst 0, 1) := by decide +kernel
theorem dX4_rounded_16 : decode cX4_rounded 16 = .ok (.lreturn, 1) := by decide +kernel
theorem dX4_rounded_17 : decode cX4_rounded 17 = .ok (.lload_n 0, 1) := by decide +kernel
theorem dX4_rounded_18 : decode cX4_rounded 18 = .ok (.iload_n 2, 1) := by decide +kernel
theorem dX4_rounded_19 : decode cX4_rounded 19 = .ok (.lushr, 1) := by decide +kernel
theorem dX4_rounded_20 : decode cX4_rounded 20 = .ok (.lstore_n 3, 1) := by decide +kernel
theorem dX4_rounded_21 : decode cX4_rounded 21 = .ok (.lload_n 0, 1) := by decide +kernel
theorem dX4_rounded_22 : decode cX4_rounded 22 = .ok (.lconst 1, 1) := by decide +kernel
theorem dX4_rounded_23 : decode cX4_rounded 23 = .ok (.iload_n 2, 1) := by decide +kernel
theorem dX4_rounded_24 : decode cX4_rounded 24 = .ok (.lshl, 1) := by decide +kernel
theorem dX4_rounded_25 : decode cX4_rounded 25 = .ok (.lconst 1, 1) := by decide +kernel
theorem dX4_rounded_26 : decode cX4_rounded 26 = .ok (.lsub, 1) := by decide +kernel
theorem dX4_rounded_27 : decode cX4_rounded 27 = .ok (.land, 1) := by decide +kernel
theorem dX4_rounded_28 : decode cX4_rounded 28 = .ok (.lstore 5, 2) := by decide +kernel
theorem dX4_rounded_30 : decode cX4_rounded 30 = .ok (.lconst 1, 1) := by decide +kernel
theorem dX4_rounded_31 : decode cX4_rounded 31 = .ok (.iload_n 2, 1) := by decide +kernel
theorem dX4_rounded_32 : decode cX4_rounded 32 = .ok (.iconst 1, 1) := by decide +kernel
theorem dX4_rounded_33 : decode cX4_rounded 33 = .ok (.isub, 1) := by decide +kernel
theorem dX4_rounded_34 : decode cX4_rounded 34 = .ok (.lshl, 1) := by decide +kernel
theorem dX4_rounded_35 : decode cX4_rounded 35 = .ok (.lstore 7, 2) := by decide +kernel
theorem dX4_rounded_37 : decode cX4_rounded 37 = .ok (.lload 5, 2) := by decide +kernel
theorem dX4_rounded_39 : decode cX4_rounded 39 = .ok (.lload 7, 2) := by decide +kernel
theorem dX4_rounded_41 : decode cX4_rounded 41 = .ok (.lcmp, 1) := by decide +kernel
theorem dX4_rounded_42 : decode cX4_rounded 42 = .ok (.ifCond .gt 19, 3) := by decide +kernel
theorem dX4_rounded_45 : decode cX4_rounded 45 = .ok (.lload 5, 2) := by decide +kernel
theorem dX4_rounded_47 : decode cX4_rounded 47 = .ok (.lload 7, 2) := by decide +kernel
theorem dX4_rounded_49 : decode cX4_rounded 49 = .ok (.lcmp, 1) := by decide +kernel
theorem dX4_rounded_50 : decode cX4_rounded 50 = .ok (.ifCond .ne 15, 3) := by decide +kernel
theorem dX4_rounded_53 : decode cX4_rounded 53 = .ok (.lload_n 3, 1) := by decide +kernel
theorem dX4_rounded_54 : decode cX4_rounded 54 = .ok (.lconst 1, 1) := by decide +kernel
theorem dX4_rounded_55 : decode cX4_rounded 55 = .ok (.land, 1) := by decide +kernel
theorem dX4_rounded_56 : decode cX4_rounded 56 = .ok (.lconst 0, 1) := by decide +kernel
theorem dX4_rounded_57 : decode cX4_rounded 57 = .ok (.lcmp, 1) := by decide +kernel
theorem dX4_rounded_58 : decode cX4_rounded 58 = .ok (.ifCond .eq 7, 3) := by decide +kernel
theorem dX4_rounded_61 : decode cX4_rounded 61 = .ok (.iconst 1, 1) := by decide +kernel
theorem dX4_rounded_62 : decode cX4_rounded 62 = .ok (.goto 4, 3) := by decide +kernel
theorem dX4_rounded_65 : decode cX4_rounded 65 = .ok (.iconst 0, 1) := by decide +kernel
theorem dX4_rounded_66 : decode cX4_rounded 66 = .ok (.istore 9, 2) := by decide +kernel
theorem dX4_rounded_68 : decode cX4_rounded 68 = .ok (.iload 9, 2) := by decide +kernel
theorem dX4_rounded_70 : decode cX4_rounded 70 = .ok (.ifCond .eq 9, 3) := by decide +kernel
theorem dX4_rounded_73 : decode cX4_rounded 73 = .ok (.lload_n 3, 1) := by decide +kernel
theorem dX4_rounded_74 : decode cX4_rounded 74 = .ok (.lconst 1, 1) := by decide +kernel
theorem dX4_rounded_75 : decode cX4_rounded 75 = .ok (.ladd, 1) := by decide +kernel
theorem dX4_rounded_76 : decode cX4_rounded 76 = .ok (.goto 4, 3) := by decide +kernel
theorem dX4_rounded_79 : decode cX4_rounded 79 = .ok (.lload_n 3, 1) := by decide +kernel
theorem dX4_rounded_80 : decode cX4_rounded 80 = .ok (.lreturn, 1) := by decide +kernel
set_option maxRecDepth 20000 in
theorem ggX4_shiftedOut_X4_withMore : GoodIn wsX4_shiftedOut wsX4_withMore := goodIn_r _ [4] (by decide +kernel) (by decide +kernel)
set_option maxRecDepth 20000 in
theorem gX4_shiftedOut_X4_withMore : GoodIn wsX4_shiftedOut (va_wsS RX4 44 yX4_withMore wsX4_withMore) := goodIn_app (goodIn_of _ (by decide +kernel)) ggX4_shiftedOut_X4_withMore
theorem dX4_shiftedOut_0 : decode cX4_shiftedOut 0 = .ok (.iload_n 2, 1) := by decide +kernel
theorem dX4_shiftedOut_1 : decode cX4_shiftedOut 1 = .ok (.bipush 63, 2) := by decide +kernel
theorem dX4_shiftedOut_3 : decode cX4_shiftedOut 3 = .ok (.if_icmp .le 9, 3) := by decide +kernel
theorem dX4_shiftedOut_6 : decode cX4_shiftedOut 6 = .ok (.lconst 0, 1) := by decide +kernel
theorem dX4_shiftedOut_7 : decode cX4_shiftedOut 7 = .ok (.lload_n 0, 1) := by decide +kernel
theorem dX4_shiftedOut_8 : decode cX4_shiftedOut 8 = .ok (.invokestatic 44, 3) := by decide +kernel
theorem dX4_shiftedOut_11 : decode cX4_shiftedOut 11 = .ok (.lreturn, 1) := by decide +kernel
theorem dX4_shiftedOut_12 : decode cX4_shiftedOut 12 = .ok (.lload_n 0, 1) := by decide +kernel
theorem dX4_shiftedOut_13 : decode cX4_shiftedOut 13 = .ok (.iload_n 2, 1) := by decide +kernel
theorem dX4_shiftedOut_14 : decode cX4_shiftedOut 14 = .ok (.lushr, 1) := by decide +kernel
theorem dX4_shiftedOut_15 : decode cX4_shiftedOut 15 = .ok (.lload_n 0, 1) := by decide +kernel
theorem dX4_shiftedOut_16 : decode cX4_shiftedOut 16 = .ok (.lconst 1, 1) := by decide +kernel
theorem dX4_shiftedOut_17 : decode cX4_shiftedOut 17 = .ok (.iload_n 2, 1) := by decide +kernel
theorem dX4_shiftedOut_18 : decode cX4_shiftedOut 18 = .ok (.lshl, 1) := by decide +kernel
theorem dX4_shiftedOut_19 : decode cX4_shiftedOut 19 = .ok (.lconst 1, 1) := by decide +kernel
theorem dX4_shiftedOut_20 : decode cX4_shiftedOut 20 = .ok (.lsub, 1) := by decide +kernel
theorem dX4_shiftedOut_21 : decode cX4_shiftedOut 21 = .ok (.land, 1) := by decide +kernel
theorem dX4_shiftedOut_22 : decode cX4_shiftedOut 22 = .ok (.invokestatic 44, 3) := by decide +kernel
theorem dX4_shiftedOut_25 : decode cX4_shiftedOut 25 = .ok (.lreturn, 1) := by decide +kernel
theorem dX4_withMore_0 : decode cX4_withMore 0 = .ok (.lload_n 2, 1) := by decide +kernel
theorem dX4_withMore_1 : decode cX4_withMore 1 = .ok (.lconst 0, 1) := by decide +kernel
theorem dX4_withMore_2 : decode cX4_withMore 2 = .ok (.lcmp, 1) := by decide +kernel
theorem dX4_withMore_3 : decode cX4_withMore 3 = .ok (.ifCond .ne 7, 3) := by decide +kernel
theorem dX4_withMore_6 : decode cX4_withMore 6 = .ok (.lload_n 0, 1) := by decide +kernel
theorem dX4_withMore_7 : decode cX4_withMore 7 = .ok (.goto 6, 3) := by decide +kernel
theorem dX4_withMore_10 : decode cX4_withMore 10 = .ok (.lload_n 0, 1) := by decide +kernel
theorem dX4_withMore_11 : decode cX4_withMore 11 = .ok (.lconst 1, 1) := by decide +kernel
theorem dX4_withMore_12 : decode cX4_withMore 12 = .ok (.lor, 1) := by decide +kernel
theorem dX4_withMore_13 : decode cX4_withMore 13 = .ok (.lreturn, 1) := by decide +kernel
set_option maxRecDepth 20000 in
theorem ggX4_mantissa_X4_width : GoodIn wsX4_mantissa wsX4_width := goodIn_r _ [4] (by decide +kernel) (by decide +kernel)
set_option maxRecDepth 20000 in
theorem gX4_mantissa_X4_width : GoodIn wsX4_mantissa (va_wsS RX4 74 yX4_width wsX4_width) := goodIn_app (goodIn_of _ (by decide +kernel)) ggX4_mantissa_X4_width
set_option maxRecDepth 20000 in
theorem ggX4_mantissa_X4_sizeOf : GoodIn wsX4_mantissa wsX4_sizeOf := goodIn_r _ [7, 8, 9] (by decide +kernel) (by decide +kernel)
set_option maxRecDepth 20000 in
theorem gX4_mantissa_X4_sizeOf : GoodIn wsX4_mantissa (va_wsS RX4 7 yX4_sizeOf wsX4_sizeOf) := goodIn_app (goodIn_of _ (by decide +kernel)) ggX4_mantissa_X4_sizeOf
theorem dX4_mantissa_0 : decode cX4_mantissa 0 = .ok (.lconst 1, 1) := by decide +kernel
theorem dX4_mantissa_1 : decode cX4_mantissa 1 = .ok (.iload_n 0, 1) := by decide +kernel
theorem dX4_mantissa_2 : decode cX4_mantissa 2 = .ok (.invokestatic 74, 3) := by decide +kernel
theorem dX4_mantissa_5 : decode cX4_mantissa 5 = .ok (.lshl, 1) := by decide +kernel
theorem dX4_mantissa_6 : decode cX4_mantissa 6 = .ok (.lstore_n 3, 1) := by decide +kernel
theorem dX4_mantissa_7 : decode cX4_mantissa 7 = .ok (.lload_n 1, 1) := by decide +kernel
theorem dX4_mantissa_8 : decode cX4_mantissa 8 = .ok (.lload_n 3, 1) := by decide +kernel
theorem dX4_mantissa_9 : decode cX4_mantissa 9 = .ok (.lconst 1, 1) := by decide +kernel
theorem dX4_mantissa_10 : decode cX4_mantissa 10 = .ok (.lsub, 1) := by decide +kernel
theorem dX4_mantissa_11 : decode cX4_mantissa 11 = .ok (.land, 1) := by decide +kernel
theorem dX4_mantissa_12 : decode cX4_mantissa 12 = .ok (.lstore 5, 2) := by decide +kernel
theorem dX4_mantissa_14 : decode cX4_mantissa 14 = .ok (.iload_n 0, 1) := by decide +kernel
theorem dX4_mantissa_15 : decode cX4_mantissa 15 = .ok (.lload_n 1, 1) := by decide +kernel
theorem dX4_mantissa_16 : decode cX4_mantissa 16 = .ok (.invokestatic 7, 3) := by decide +kernel
theorem dX4_mantissa_19 : decode cX4_mantissa 19 = .ok (.lload_n 3, 1) := by decide +kernel
theorem dX4_mantissa_20 : decode cX4_mantissa 20 = .ok (.lcmp, 1) := by decide +kernel
theorem dX4_mantissa_21 : decode cX4_mantissa 21 = .ok (.ifCond .ge 8, 3) := by decide +kernel
theorem dX4_mantissa_24 : decode cX4_mantissa 24 = .ok (.lload 5, 2) := by decide +kernel
theorem dX4_mantissa_26 : decode cX4_mantissa 26 = .ok (.goto 7, 3) := by decide +kernel
theorem dX4_mantissa_29 : decode cX4_mantissa 29 = .ok (.lload 5, 2) := by decide +kernel
theorem dX4_mantissa_31 : decode cX4_mantissa 31 = .ok (.lload_n 3, 1) := by decide +kernel
theorem dX4_mantissa_32 : decode cX4_mantissa 32 = .ok (.lor, 1) := by decide +kernel
theorem dX4_mantissa_33 : decode cX4_mantissa 33 = .ok (.lreturn, 1) := by decide +kernel
set_option maxRecDepth 20000 in
theorem ggX4_exponent_X4_sizeOf : GoodIn wsX4_exponent wsX4_sizeOf := goodIn_r _ [8, 9, 10] (by decide +kernel) (by decide +kernel)
set_option maxRecDepth 20000 in
theorem gX4_exponent_X4_sizeOf : GoodIn wsX4_exponent (va_wsS RX4 7 yX4_sizeOf wsX4_sizeOf) := goodIn_app (goodIn_of _ (by decide +kernel)) ggX4_exponent_X4_sizeOf
set_option maxRecDepth 20000 in
theorem ggX4_exponent_X4_width : GoodIn wsX4_exponent wsX4_width := goodIn_r _ [13] (by decide +kernel) (by decide +kernel)
set_option maxRecDepth 20000 in
theorem gX4_exponent_X4_width : GoodIn wsX4_exponent (va_wsS RX4 74 yX4_width wsX4_width) := goodIn_app (goodIn_of _ (by decide +kernel)) ggX4_exponent_X4_width
set_option maxRecDepth 20000 in
theorem ggX4_exponent_X4_leastExponent : GoodIn wsX4_exponent wsX4_leastExponent := goodIn_r _ [16] (by decide +kernel) (by decide +kernel)
set_option maxRecDepth 20000 in
theorem gX4_exponent_X4_leastExponent : GoodIn wsX4_exponent (va_wsS RX4 70 yX4_leastExponent wsX4_leastExponent) := goodIn_app (goodIn_of _ (by decide +kernel)) ggX4_exponent_X4_leastExponent
theorem dX4_exponent_0 : decode cX4_exponent 0 = .ok (.iload_n 0, 1) := by decide +kernel
theorem dX4_exponent_1 : decode cX4_exponent 1 = .ok (.lload_n 1, 1) := by decide +kernel
theorem dX4_exponent_2 : decode cX4_exponent 2 = .ok (.invokestatic 7, 3) := by decide +kernel
theorem dX4_exponent_5 : decode cX4_exponent 5 = .ok (.iload_n 0, 1) := by decide +kernel
theorem dX4_exponent_6 : decode cX4_exponent 6 = .ok (.invokestatic 74, 3) := by decide +kernel
theorem dX4_exponent_9 : decode cX4_exponent 9 = .ok (.lushr, 1) := by decide +kernel
theorem dX4_exponent_10 : decode cX4_exponent 10 = .ok (.l2i, 1) := by decide +kernel
theorem dX4_exponent_11 : decode cX4_exponent 11 = .ok (.istore_n 3, 1) := by decide +kernel
theorem dX4_exponent_12 : decode cX4_exponent 12 = .ok (.iload_n 0, 1) := by decide +kernel
theorem dX4_exponent_13 : decode cX4_exponent 13 = .ok (.invokestatic 70, 3) := by decide +kernel
theorem dX4_exponent_16 : decode cX4_exponent 16 = .ok (.iconst 0, 1) := by decide +kernel
theorem dX4_exponent_17 : decode cX4_exponent 17 = .ok (.iload_n 3, 1) := by decide +kernel
theorem dX4_exponent_18 : decode cX4_exponent 18 = .ok (.iconst 1, 1) := by decide +kernel
theorem dX4_exponent_19 : decode cX4_exponent 19 = .ok (.isub, 1) := by decide +kernel
theorem dX4_exponent_20 : decode cX4_exponent 20 = .ok (.invokestatic 57, 3) := by decide +kernel
theorem dX4_exponent_23 : decode cX4_exponent 23 = .ok (.iadd, 1) := by decide +kernel
theorem dX4_exponent_24 : decode cX4_exponent 24 = .ok (.ireturn, 1) := by decide +kernel
theorem dX4_sizeOf_0 : decode cX4_sizeOf 0 = .ok (.lload_n 1, 1) := by decide +kernel
theorem dX4_sizeOf_1 : decode cX4_sizeOf 1 = .ok (.iload_n 0, 1) := by decide +kernel
theorem dX4_sizeOf_2 : decode cX4_sizeOf 2 = .ok (.ifCond .eq 9, 3) := by decide +kernel
theorem dX4_sizeOf_5 : decode cX4_sizeOf 5 = .ok (.ldc2_w 68, 3) := by decide +kernel
theorem dX4_sizeOf_8 : decode cX4_sizeOf 8 = .ok (.goto 6, 3) := by decide +kernel
theorem dX4_sizeOf_11 : decode cX4_sizeOf 11 = .ok (.ldc2_w 82, 3) := by decide +kernel
theorem dX4_sizeOf_14 : decode cX4_sizeOf 14 = .ok (.land, 1) := by decide +kernel
theorem dX4_sizeOf_15 : decode cX4_sizeOf 15 = .ok (.lreturn, 1) := by decide +kernel
theorem dX4_signed_0 : decode cX4_signed 0 = .ok (.iload_n 0, 1) := by decide +kernel
theorem dX4_signed_1 : decode cX4_signed 1 = .ok (.ifCond .eq 9, 3) := by decide +kernel
theorem dX4_signed_4 : decode cX4_signed 4 = .ok (.ldc2_w 19, 3) := by decide +kernel
theorem dX4_signed_7 : decode cX4_signed 7 = .ok (.goto 6, 3) := by decide +kernel
theorem dX4_signed_10 : decode cX4_signed 10 = .ok (.ldc2_w 84, 3) := by decide +kernel
theorem dX4_signed_13 : decode cX4_signed 13 = .ok (.lstore 4, 2) := by decide +kernel
theorem dX4_signed_15 : decode cX4_signed 15 = .ok (.iload_n 1, 1) := by decide +kernel
theorem dX4_signed_16 : decode cX4_signed 16 = .ok (.ifCond .eq 10, 3) := by decide +kernel
theorem dX4_signed_19 : decode cX4_signed 19 = .ok (.lload_n 2, 1) := by decide +kernel
theorem dX4_signed_20 : decode cX4_signed 20 = .ok (.lload 4, 2) := by decide +kernel
theorem dX4_signed_22 : decode cX4_signed 22 = .ok (.lor, 1) := by decide +kernel
theorem dX4_signed_23 : decode cX4_signed 23 = .ok (.goto 4, 3) := by decide +kernel
theorem dX4_signed_26 : decode cX4_signed 26 = .ok (.lload_n 2, 1) := by decide +kernel
theorem dX4_signed_27 : decode cX4_signed 27 = .ok (.lreturn, 1) := by decide +kernel
theorem dX4_endless_0 : decode cX4_endless 0 = .ok (.iload_n 0, 1) := by decide +kernel
theorem dX4_endless_1 : decode cX4_endless 1 = .ok (.ifCond .eq 9, 3) := by decide +kernel
theorem dX4_endless_4 : decode cX4_endless 4 = .ok (.ldc2_w 86, 3) := by decide +kernel
theorem dX4_endless_7 : decode cX4_endless 7 = .ok (.goto 6, 3) := by decide +kernel
theorem dX4_endless_10 : decode cX4_endless 10 = .ok (.ldc2_w 88, 3) := by decide +kernel
theorem dX4_endless_13 : decode cX4_endless 13 = .ok (.lreturn, 1) := by decide +kernel
theorem dX4_width_0 : decode cX4_width 0 = .ok (.iload_n 0, 1) := by decide +kernel
theorem dX4_width_1 : decode cX4_width 1 = .ok (.ifCond .eq 8, 3) := by decide +kernel
theorem dX4_width_4 : decode cX4_width 4 = .ok (.bipush 52, 2) := by decide +kernel
theorem dX4_width_6 : decode cX4_width 6 = .ok (.goto 5, 3) := by decide +kernel
theorem dX4_width_9 : decode cX4_width 9 = .ok (.bipush 23, 2) := by decide +kernel
theorem dX4_width_11 : decode cX4_width 11 = .ok (.ireturn, 1) := by decide +kernel
theorem dX4_leastExponent_0 : decode cX4_leastExponent 0 = .ok (.iload_n 0, 1) := by decide +kernel
theorem dX4_leastExponent_1 : decode cX4_leastExponent 1 = .ok (.ifCond .eq 9, 3) := by decide +kernel
theorem dX4_leastExponent_4 : decode cX4_leastExponent 4 = .ok (.sipush (-1074), 3) := by decide +kernel
theorem dX4_leastExponent_7 : decode cX4_leastExponent 7 = .ok (.goto 6, 3) := by decide +kernel
theorem dX4_leastExponent_10 : decode cX4_leastExponent 10 = .ok (.sipush (-149), 3) := by decide +kernel
theorem dX4_leastExponent_13 : decode cX4_leastExponent 13 = .ok (.ireturn, 1) := by decide +kernel
set_option maxRecDepth 20000 in
theorem ggX4_lengthOf_J13_numberOfLeadingZeros_95d88 : GoodIn wsX4_lengthOf wsJ13_numberOfLeadingZeros_95d88 := goodIn_r _ [4, 5, 6, 7, 8, 9] (by decide +kernel) (by decide +kernel)
set_option maxRecDepth 20000 in
theorem gX4_lengthOf_J13_numberOfLeadingZeros_95d88 : GoodIn wsX4_lengthOf (va_wsS RX4 54 yJ13_numberOfLeadingZeros_95d88 wsJ13_numberOfLeadingZeros_95d88) := goodIn_app (goodIn_of _ (by decide +kernel)) ggX4_lengthOf_J13_numberOfLeadingZeros_95d88
theorem dX4_lengthOf_0 : decode cX4_lengthOf 0 = .ok (.bipush 64, 2) := by decide +kernel
theorem dX4_lengthOf_2 : decode cX4_lengthOf 2 = .ok (.lload_n 0, 1) := by decide +kernel
theorem dX4_lengthOf_3 : decode cX4_lengthOf 3 = .ok (.invokestatic 54, 3) := by decide +kernel
theorem dX4_lengthOf_6 : decode cX4_lengthOf 6 = .ok (.isub, 1) := by decide +kernel
theorem dX4_lengthOf_7 : decode cX4_lengthOf 7 = .ok (.ireturn, 1) := by decide +kernel
theorem dX5_init_0 : decode cX5_init 0 = .ok (.aload_n 0, 1) := by decide +kernel
theorem dX5_init_1 : decode cX5_init 1 = .ok (.invokespecial 3, 3) := by decide +kernel
theorem dX5_init_4 : decode cX5_init 4 = .ok (.aload_n 0, 1) := by decide +kernel
theorem dX5_init_5 : decode cX5_init 5 = .ok (.bipush 16, 2) := by decide +kernel
theorem dX5_init_7 : decode cX5_init 7 = .ok (.newarray .long, 2) := by decide +kernel
theorem dX5_init_9 : decode cX5_init 9 = .ok (.putfield 9, 3) := by decide +kernel
theorem dX5_init_12 : decode cX5_init 12 = .ok (.aload_n 0, 1) := by decide +kernel
theorem dX5_init_13 : decode cX5_init 13 = .ok (.iconst (-1), 1) := by decide +kernel
theorem dX5_init_14 : decode cX5_init 14 = .ok (.putfield 15, 3) := by decide +kernel
theorem dX5_init_17 : decode cX5_init 17 = .ok (.return_, 1) := by decide +kernel
theorem dX5_renew_0 : decode cX5_renew 0 = .ok (.iconst 0, 1) := by decide +kernel
theorem dX5_renew_1 : decode cX5_renew 1 = .ok (.istore_n 2, 1) := by decide +kernel
theorem dX5_renew_2 : decode cX5_renew 2 = .ok (.iload_n 2, 1) := by decide +kernel
theorem dX5_renew_3 : decode cX5_renew 3 = .ok (.aload_n 0, 1) := by decide +kernel
theorem dX5_renew_4 : decode cX5_renew 4 = .ok (.getfield 9, 3) := by decide +kernel
theorem dX5_renew_7 : decode cX5_renew 7 = .ok (.arraylength, 1) := by decide +kernel
theorem dX5_renew_8 : decode cX5_renew 8 = .ok (.if_icmp .ge 16, 3) := by decide +kernel
theorem dX5_renew_11 : decode cX5_renew 11 = .ok (.aload_n 0, 1) := by decide +kernel
theorem dX5_renew_12 : decode cX5_renew 12 = .ok (.getfield 9, 3) := by decide +kernel
theorem dX5_renew_15 : decode cX5_renew 15 = .ok (.iload_n 2, 1) := by decide +kernel
theorem dX5_renew_16 : decode cX5_renew 16 = .ok (.lconst 0, 1) := by decide +kernel
theorem dX5_renew_17 : decode cX5_renew 17 = .ok (.lastore, 1) := by decide +kernel
theorem dX5_renew_18 : decode cX5_renew 18 = .ok (.iinc 2 1, 3) := by decide +kernel
theorem dX5_renew_21 : decode cX5_renew 21 = .ok (.goto (-19), 3) := by decide +kernel
theorem dX5_renew_24 : decode cX5_renew 24 = .ok (.aload_n 0, 1) := by decide +kernel
theorem dX5_renew_25 : decode cX5_renew 25 = .ok (.iload_n 1, 1) := by decide +kernel
theorem dX5_renew_26 : decode cX5_renew 26 = .ok (.putfield 15, 3) := by decide +kernel
theorem dX5_renew_29 : decode cX5_renew 29 = .ok (.return_, 1) := by decide +kernel
theorem dX5_isMissing_0 : decode cX5_isMissing 0 = .ok (.aload_n 0, 1) := by decide +kernel
theorem dX5_isMissing_1 : decode cX5_isMissing 1 = .ok (.getfield 15, 3) := by decide +kernel
theorem dX5_isMissing_4 : decode cX5_isMissing 4 = .ok (.iconst (-1), 1) := by decide +kernel
theorem dX5_isMissing_5 : decode cX5_isMissing 5 = .ok (.if_icmp .ne 7, 3) := by decide +kernel
theorem dX5_isMissing_8 : decode cX5_isMissing 8 = .ok (.iconst 1, 1) := by decide +kernel
theorem dX5_isMissing_9 : decode cX5_isMissing 9 = .ok (.goto 4, 3) := by decide +kernel
theorem dX5_isMissing_12 : decode cX5_isMissing 12 = .ok (.iconst 0, 1) := by decide +kernel
theorem dX5_isMissing_13 : decode cX5_isMissing 13 = .ok (.ireturn, 1) := by decide +kernel
set_option maxRecDepth 20000 in
theorem ggX5_failureAt_X5_isMissing : GoodIn wsX5_failureAt wsX5_isMissing := goodIn_r _ [6, 1, 7, 8] (by decide +kernel) (by decide +kernel)
set_option maxRecDepth 20000 in
theorem gX5_failureAt_X5_isMissing : GoodIn wsX5_failureAt (wsV RX5 19 RX5 yX5_isMissing wsX5_isMissing) := goodIn_app (goodIn_of _ (by decide +kernel)) ggX5_failureAt_X5_isMissing
theorem dX5_failureAt_0 : decode cX5_failureAt 0 = .ok (.aload_n 0, 1) := by decide +kernel
theorem dX5_failureAt_1 : decode cX5_failureAt 1 = .ok (.invokevirtual 19, 3) := by decide +kernel
theorem dX5_failureAt_4 : decode cX5_failureAt 4 = .ok (.ifCond .eq 6, 3) := by decide +kernel
theorem dX5_failureAt_7 : decode cX5_failureAt 7 = .ok (.bipush (-11), 2) := by decide +kernel
theorem dX5_failureAt_9 : decode cX5_failureAt 9 = .ok (.ireturn, 1) := by decide +kernel
theorem dX5_failureAt_10 : decode cX5_failureAt 10 = .ok (.iload_n 1, 1) := by decide +kernel
theorem dX5_failureAt_11 : decode cX5_failureAt 11 = .ok (.ifCond .lt 15, 3) := by decide +kernel
theorem dX5_failureAt_14 : decode cX5_failureAt 14 = .ok (.iload_n 1, 1) := by decide +kernel
theorem dX5_failureAt_15 : decode cX5_failureAt 15 = .ok (.aload_n 0, 1) := by decide +kernel
theorem dX5_failureAt_16 : decode cX5_failureAt 16 = .ok (.getfield 15, 3) := by decide +kernel
theorem dX5_failureAt_19 : decode cX5_failureAt 19 = .ok (.if_icmp .ge 7, 3) := by decide +kernel
theorem dX5_failureAt_22 : decode cX5_failureAt 22 = .ok (.iconst 0, 1) := by decide +kernel
theorem dX5_failureAt_23 : decode cX5_failureAt 23 = .ok (.goto 5, 3) := by decide +kernel
theorem dX5_failureAt_26 : decode cX5_failureAt 26 = .ok (.bipush (-12), 2) := by decide +kernel
theorem dX5_failureAt_28 : decode cX5_failureAt 28 = .ok (.ireturn, 1) := by decide +kernel
set_option maxRecDepth 20000 in
theorem ggX6_init_X2_init : GoodIn wsX6_init wsX2_init := goodIn_r _ [4, 5, 6, 7, 8, 9, 10, 11, 12, 13, 14, 15, 16, 17, 18, 19, 20, 21] (by decide +kernel) (by decide +kernel)
set_option maxRecDepth 20000 in
theorem gX6_init_X2_init : GoodIn wsX6_init (wsX2_init) := ggX6_init_X2_init
theorem dX6_init_0 : decode cX6_init 0 = .ok (.aload_n 0, 1) := by decide +kernel
theorem dX6_init_1 : decode cX6_init 1 = .ok (.iload_n 1, 1) := by decide +kernel
theorem dX6_init_2 : decode cX6_init 2 = .ok (.lload_n 2, 1) := by decide +kernel
theorem dX6_init_3 : decode cX6_init 3 = .ok (.invokespecial 1, 3) := by decide +kernel
theorem dX6_init_6 : decode cX6_init 6 = .ok (.return_, 1) := by decide +kernel
set_option maxRecDepth 20000 in
theorem ggX6_forceAt_X4_negated : GoodIn wsX6_forceAt wsX4_negated := goodIn_r _ [6, 7] (by decide +kernel) (by decide +kernel)
set_option maxRecDepth 20000 in
theorem gX6_forceAt_X4_negated : GoodIn wsX6_forceAt (va_wsS RX6 13 yX4_negated wsX4_negated) := goodIn_app (goodIn_of _ (by decide +kernel)) ggX6_forceAt_X4_negated
set_option maxRecDepth 20000 in
theorem ggX6_forceAt_X4_sum : GoodIn wsX6_forceAt wsX4_sum := goodIn_r _ [10, 11, 12, 5, 13, 14, 15, 16, 17, 18, 19, 20, 21, 22, 23, 24, 25, 26, 27, 28, 29, 30, 31, 32, 33, 34, 35, 36, 37, 38, 39, 40, 41, 42, 43, 7, 44, 45, 46, 47, 48, 49, 50, 51, 52, 53, 54, 55, 56, 57, 58, 59, 60, 61, 62, 63, 64] (by decide +kernel) (by decide +kernel)
set_option maxRecDepth 20000 in
theorem gX6_forceAt_X4_sum : GoodIn wsX6_forceAt (va_wsS RX6 19 yX4_sum wsX4_sum) := goodIn_app (goodIn_of _ (by decide +kernel)) ggX6_forceAt_X4_sum
theorem dX6_forceAt_0 : decode cX6_forceAt 0 = .ok (.iconst 1, 1) := by decide +kernel
theorem dX6_forceAt_1 : decode cX6_forceAt 1 = .ok (.aload_n 0, 1) := by decide +kernel
theorem dX6_forceAt_2 : decode cX6_forceAt 2 = .ok (.getfield 7, 3) := by decide +kernel
theorem dX6_forceAt_5 : decode cX6_forceAt 5 = .ok (.lload_n 1, 1) := by decide +kernel
theorem dX6_forceAt_6 : decode cX6_forceAt 6 = .ok (.invokestatic 13, 3) := by decide +kernel
theorem dX6_forceAt_9 : decode cX6_forceAt 9 = .ok (.invokestatic 19, 3) := by decide +kernel
theorem dX6_forceAt_12 : decode cX6_forceAt 12 = .ok (.lreturn, 1) := by decide +kernel
theorem dJxe99ae_isNaN_b9ae7_0 : decode cJxe99ae_isNaN_b9ae7 0 = .ok (.dload_n 0, 1) := by decide +kernel
theorem dJxe99ae_isNaN_b9ae7_1 : decode cJxe99ae_isNaN_b9ae7 1 = .ok (.dload_n 0, 1) := by decide +kernel
theorem dJxe99ae_isNaN_b9ae7_2 : decode cJxe99ae_isNaN_b9ae7 2 = .ok (.dcmp .l, 1) := by decide +kernel
theorem dJxe99ae_isNaN_b9ae7_3 : decode cJxe99ae_isNaN_b9ae7 3 = .ok (.ifCond .eq 7, 3) := by decide +kernel
theorem dJxe99ae_isNaN_b9ae7_6 : decode cJxe99ae_isNaN_b9ae7 6 = .ok (.iconst 1, 1) := by decide +kernel
theorem dJxe99ae_isNaN_b9ae7_7 : decode cJxe99ae_isNaN_b9ae7 7 = .ok (.goto 4, 3) := by decide +kernel
theorem dJxe99ae_isNaN_b9ae7_10 : decode cJxe99ae_isNaN_b9ae7 10 = .ok (.iconst 0, 1) := by decide +kernel
theorem dJxe99ae_isNaN_b9ae7_11 : decode cJxe99ae_isNaN_b9ae7 11 = .ok (.ireturn, 1) := by decide +kernel
set_option maxRecDepth 20000 in
theorem ggJxe99ae_doubleToLongBits_ccdee_Jxe99ae_isNaN_b9ae7 : GoodIn wsJxe99ae_doubleToLongBits_ccdee wsJxe99ae_isNaN_b9ae7 := goodIn_r _ [9] (by decide +kernel) (by decide +kernel)
set_option maxRecDepth 20000 in
theorem gJxe99ae_doubleToLongBits_ccdee_Jxe99ae_isNaN_b9ae7 : GoodIn wsJxe99ae_doubleToLongBits_ccdee (va_wsS RJxe99ae 122 yJxe99ae_isNaN_b9ae7 wsJxe99ae_isNaN_b9ae7) := goodIn_app (goodIn_of _ (by decide +kernel)) ggJxe99ae_doubleToLongBits_ccdee_Jxe99ae_isNaN_b9ae7
theorem dJxe99ae_doubleToLongBits_ccdee_0 : decode cJxe99ae_doubleToLongBits_ccdee 0 = .ok (.dload_n 0, 1) := by decide +kernel
theorem dJxe99ae_doubleToLongBits_ccdee_1 : decode cJxe99ae_doubleToLongBits_ccdee 1 = .ok (.invokestatic 122, 3) := by decide +kernel
theorem dJxe99ae_doubleToLongBits_ccdee_4 : decode cJxe99ae_doubleToLongBits_ccdee 4 = .ok (.ifCond .ne 8, 3) := by decide +kernel
theorem dJxe99ae_doubleToLongBits_ccdee_7 : decode cJxe99ae_doubleToLongBits_ccdee 7 = .ok (.dload_n 0, 1) := by decide +kernel
theorem dJxe99ae_doubleToLongBits_ccdee_8 : decode cJxe99ae_doubleToLongBits_ccdee 8 = .ok (.invokestatic 134, 3) := by decide +kernel
theorem dJxe99ae_doubleToLongBits_ccdee_11 : decode cJxe99ae_doubleToLongBits_ccdee 11 = .ok (.lreturn, 1) := by decide +kernel
theorem dJxe99ae_doubleToLongBits_ccdee_12 : decode cJxe99ae_doubleToLongBits_ccdee 12 = .ok (.ldc2_w 137, 3) := by decide +kernel
theorem dJxe99ae_doubleToLongBits_ccdee_15 : decode cJxe99ae_doubleToLongBits_ccdee 15 = .ok (.lreturn, 1) := by decide +kernel
theorem dJxf58ca_isNaN_12338_0 : decode cJxf58ca_isNaN_12338 0 = .ok (.fload_n 0, 1) := by decide +kernel
theorem dJxf58ca_isNaN_12338_1 : decode cJxf58ca_isNaN_12338 1 = .ok (.fload_n 0, 1) := by decide +kernel
theorem dJxf58ca_isNaN_12338_2 : decode cJxf58ca_isNaN_12338 2 = .ok (.fcmp .l, 1) := by decide +kernel
theorem dJxf58ca_isNaN_12338_3 : decode cJxf58ca_isNaN_12338 3 = .ok (.ifCond .eq 7, 3) := by decide +kernel
theorem dJxf58ca_isNaN_12338_6 : decode cJxf58ca_isNaN_12338 6 = .ok (.iconst 1, 1) := by decide +kernel
theorem dJxf58ca_isNaN_12338_7 : decode cJxf58ca_isNaN_12338 7 = .ok (.goto 4, 3) := by decide +kernel
theorem dJxf58ca_isNaN_12338_10 : decode cJxf58ca_isNaN_12338 10 = .ok (.iconst 0, 1) := by decide +kernel
theorem dJxf58ca_isNaN_12338_11 : decode cJxf58ca_isNaN_12338 11 = .ok (.ireturn, 1) := by decide +kernel
set_option maxRecDepth 20000 in
theorem ggJxf58ca_floatToIntBits_5c35a_Jxf58ca_isNaN_12338 : GoodIn wsJxf58ca_floatToIntBits_5c35a wsJxf58ca_isNaN_12338 := goodIn_r _ [9] (by decide +kernel) (by decide +kernel)
set_option maxRecDepth 20000 in
theorem gJxf58ca_floatToIntBits_5c35a_Jxf58ca_isNaN_12338 : GoodIn wsJxf58ca_floatToIntBits_5c35a (va_wsS RJxf58ca 59 yJxf58ca_isNaN_12338 wsJxf58ca_isNaN_12338) := goodIn_app (goodIn_of _ (by decide +kernel)) ggJxf58ca_floatToIntBits_5c35a_Jxf58ca_isNaN_12338
theorem dJxf58ca_floatToIntBits_5c35a_0 : decode cJxf58ca_floatToIntBits_5c35a 0 = .ok (.fload_n 0, 1) := by decide +kernel
theorem dJxf58ca_floatToIntBits_5c35a_1 : decode cJxf58ca_floatToIntBits_5c35a 1 = .ok (.invokestatic 59, 3) := by decide +kernel
theorem dJxf58ca_floatToIntBits_5c35a_4 : decode cJxf58ca_floatToIntBits_5c35a 4 = .ok (.ifCond .ne 8, 3) := by decide +kernel
theorem dJxf58ca_floatToIntBits_5c35a_7 : decode cJxf58ca_floatToIntBits_5c35a 7 = .ok (.fload_n 0, 1) := by decide +kernel
theorem dJxf58ca_floatToIntBits_5c35a_8 : decode cJxf58ca_floatToIntBits_5c35a 8 = .ok (.invokestatic 74, 3) := by decide +kernel
theorem dJxf58ca_floatToIntBits_5c35a_11 : decode cJxf58ca_floatToIntBits_5c35a 11 = .ok (.ireturn, 1) := by decide +kernel
theorem dJxf58ca_floatToIntBits_5c35a_12 : decode cJxf58ca_floatToIntBits_5c35a 12 = .ok (.ldc 77, 2) := by decide +kernel
theorem dJxf58ca_floatToIntBits_5c35a_14 : decode cJxf58ca_floatToIntBits_5c35a 14 = .ok (.ireturn, 1) := by decide +kernel
theorem dJ6_numberOfLeadingZeros_0f7a4_0 : decode cJ6_numberOfLeadingZeros_0f7a4 0 = .ok (.iload_n 0, 1) := by decide +kernel
theorem dJ6_numberOfLeadingZeros_0f7a4_1 : decode cJ6_numberOfLeadingZeros_0f7a4 1 = .ok (.ifCond .gt 14, 3) := by decide +kernel
theorem dJ6_numberOfLeadingZeros_0f7a4_4 : decode cJ6_numberOfLeadingZeros_0f7a4 4 = .ok (.iload_n 0, 1) := by decide +kernel
theorem dJ6_numberOfLeadingZeros_0f7a4_5 : decode cJ6_numberOfLeadingZeros_0f7a4 5 = .ok (.ifCond .ne 8, 3) := by decide +kernel
theorem dJ6_numberOfLeadingZeros_0f7a4_8 : decode cJ6_numberOfLeadingZeros_0f7a4 8 = .ok (.bipush 32, 2) := by decide +kernel
theorem dJ6_numberOfLeadingZeros_0f7a4_10 : decode cJ6_numberOfLeadingZeros_0f7a4 10 = .ok (.goto 4, 3) := by decide +kernel
theorem dJ6_numberOfLeadingZeros_0f7a4_13 : decode cJ6_numberOfLeadingZeros_0f7a4 13 = .ok (.iconst 0, 1) := by decide +kernel
theorem dJ6_numberOfLeadingZeros_0f7a4_14 : decode cJ6_numberOfLeadingZeros_0f7a4 14 = .ok (.ireturn, 1) := by decide +kernel
theorem dJ6_numberOfLeadingZeros_0f7a4_15 : decode cJ6_numberOfLeadingZeros_0f7a4 15 = .ok (.bipush 31, 2) := by decide +kernel
theorem dJ6_numberOfLeadingZeros_0f7a4_17 : decode cJ6_numberOfLeadingZeros_0f7a4 17 = .ok (.istore_n 1, 1) := by decide +kernel
theorem dJ6_numberOfLeadingZeros_0f7a4_18 : decode cJ6_numberOfLeadingZeros_0f7a4 18 = .ok (.iload_n 0, 1) := by decide +kernel
theorem dJ6_numberOfLeadingZeros_0f7a4_19 : decode cJ6_numberOfLeadingZeros_0f7a4 19 = .ok (.ldc_w 264, 3) := by decide +kernel
theorem dJ6_numberOfLeadingZeros_0f7a4_22 : decode cJ6_numberOfLeadingZeros_0f7a4 22 = .ok (.if_icmp .lt 11, 3) := by decide +kernel
theorem dJ6_numberOfLeadingZeros_0f7a4_25 : decode cJ6_numberOfLeadingZeros_0f7a4 25 = .ok (.iinc 1 (-16), 3) := by decide +kernel
theorem dJ6_numberOfLeadingZeros_0f7a4_28 : decode cJ6_numberOfLeadingZeros_0f7a4 28 = .ok (.iload_n 0, 1) := by decide +kernel
theorem dJ6_numberOfLeadingZeros_0f7a4_29 : decode cJ6_numberOfLeadingZeros_0f7a4 29 = .ok (.bipush 16, 2) := by decide +kernel
theorem dJ6_numberOfLeadingZeros_0f7a4_31 : decode cJ6_numberOfLeadingZeros_0f7a4 31 = .ok (.iushr, 1) := by decide +kernel
theorem dJ6_numberOfLeadingZeros_0f7a4_32 : decode cJ6_numberOfLeadingZeros_0f7a4 32 = .ok (.istore_n 0, 1) := by decide +kernel
theorem dJ6_numberOfLeadingZeros_0f7a4_33 : decode cJ6_numberOfLeadingZeros_0f7a4 33 = .ok (.iload_n 0, 1) := by decide +kernel
theorem dJ6_numberOfLeadingZeros_0f7a4_34 : decode cJ6_numberOfLeadingZeros_0f7a4 34 = .ok (.sipush 256, 3) := by decide +kernel
theorem dJ6_numberOfLeadingZeros_0f7a4_37 : decode cJ6_numberOfLeadingZeros_0f7a4 37 = .ok (.if_icmp .lt 11, 3) := by decide +kernel
theorem dJ6_numberOfLeadingZeros_0f7a4_40 : decode cJ6_numberOfLeadingZeros_0f7a4 40 = .ok (.iinc 1 (-8), 3) := by decide +kernel
theorem dJ6_numberOfLeadingZeros_0f7a4_43 : decode cJ6_numberOfLeadingZeros_0f7a4 43 = .ok (.iload_n 0, 1) := by decide +kernel
theorem dJ6_numberOfLeadingZeros_0f7a4_44 : decode cJ6_numberOfLeadingZeros_0f7a4 44 = .ok (.bipush 8, 2) := by decide +kernel
theorem dJ6_numberOfLeadingZeros_0f7a4_46 : decode cJ6_numberOfLeadingZeros_0f7a4 46 = .ok (.iushr, 1) := by decide +kernel
theorem dJ6_numberOfLeadingZeros_0f7a4_47 : decode cJ6_numberOfLeadingZeros_0f7a4 47 = .ok (.istore_n 0, 1) := by decide +kernel
theorem dJ6_numberOfLeadingZeros_0f7a4_48 : decode cJ6_numberOfLeadingZeros_0f7a4 48 = .ok (.iload_n 0, 1) := by decide +kernel
theorem dJ6_numberOfLeadingZeros_0f7a4_49 : decode cJ6_numberOfLeadingZeros_0f7a4 49 = .ok (.bipush 16, 2) := by decide +kernel
theorem dJ6_numberOfLeadingZeros_0f7a4_51 : decode cJ6_numberOfLeadingZeros_0f7a4 51 = .ok (.if_icmp .lt 10, 3) := by decide +kernel
theorem dJ6_numberOfLeadingZeros_0f7a4_54 : decode cJ6_numberOfLeadingZeros_0f7a4 54 = .ok (.iinc 1 (-4), 3) := by decide +kernel
theorem dJ6_numberOfLeadingZeros_0f7a4_57 : decode cJ6_numberOfLeadingZeros_0f7a4 57 = .ok (.iload_n 0, 1) := by decide +kernel
theorem dJ6_numberOfLeadingZeros_0f7a4_58 : decode cJ6_numberOfLeadingZeros_0f7a4 58 = .ok (.iconst 4, 1) := by decide +kernel
theorem dJ6_numberOfLeadingZeros_0f7a4_59 : decode cJ6_numberOfLeadingZeros_0f7a4 59 = .ok (.iushr, 1) := by decide +kernel
theorem dJ6_numberOfLeadingZeros_0f7a4_60 : decode cJ6_numberOfLeadingZeros_0f7a4 60 = .ok (.istore_n 0, 1) := by decide +kernel
theorem dJ6_numberOfLeadingZeros_0f7a4_61 : decode cJ6_numberOfLeadingZeros_0f7a4 61 = .ok (.iload_n 0, 1) := by decide +kernel
theorem dJ6_numberOfLeadingZeros_0f7a4_62 : decode cJ6_numberOfLeadingZeros_0f7a4 62 = .ok (.iconst 4, 1) := by decide +kernel
theorem dJ6_numberOfLeadingZeros_0f7a4_63 : decode cJ6_numberOfLeadingZeros_0f7a4 63 = .ok (.if_icmp .lt 10, 3) := by decide +kernel
theorem dJ6_numberOfLeadingZeros_0f7a4_66 : decode cJ6_numberOfLeadingZeros_0f7a4 66 = .ok (.iinc 1 (-2), 3) := by decide +kernel
theorem dJ6_numberOfLeadingZeros_0f7a4_69 : decode cJ6_numberOfLeadingZeros_0f7a4 69 = .ok (.iload_n 0, 1) := by decide +kernel
theorem dJ6_numberOfLeadingZeros_0f7a4_70 : decode cJ6_numberOfLeadingZeros_0f7a4 70 = .ok (.iconst 2, 1) := by decide +kernel
theorem dJ6_numberOfLeadingZeros_0f7a4_71 : decode cJ6_numberOfLeadingZeros_0f7a4 71 = .ok (.iushr, 1) := by decide +kernel
theorem dJ6_numberOfLeadingZeros_0f7a4_72 : decode cJ6_numberOfLeadingZeros_0f7a4 72 = .ok (.istore_n 0, 1) := by decide +kernel
theorem dJ6_numberOfLeadingZeros_0f7a4_73 : decode cJ6_numberOfLeadingZeros_0f7a4 73 = .ok (.iload_n 1, 1) := by decide +kernel
theorem dJ6_numberOfLeadingZeros_0f7a4_74 : decode cJ6_numberOfLeadingZeros_0f7a4 74 = .ok (.iload_n 0, 1) := by decide +kernel
theorem dJ6_numberOfLeadingZeros_0f7a4_75 : decode cJ6_numberOfLeadingZeros_0f7a4 75 = .ok (.iconst 1, 1) := by decide +kernel
theorem dJ6_numberOfLeadingZeros_0f7a4_76 : decode cJ6_numberOfLeadingZeros_0f7a4 76 = .ok (.iushr, 1) := by decide +kernel
theorem dJ6_numberOfLeadingZeros_0f7a4_77 : decode cJ6_numberOfLeadingZeros_0f7a4 77 = .ok (.isub, 1) := by decide +kernel
theorem dJ6_numberOfLeadingZeros_0f7a4_78 : decode cJ6_numberOfLeadingZeros_0f7a4 78 = .ok (.ireturn, 1) := by decide +kernel
set_option maxRecDepth 20000 in
theorem ggJ13_numberOfLeadingZeros_95d88_J6_numberOfLeadingZeros_0f7a4 : GoodIn wsJ13_numberOfLeadingZeros_95d88 wsJ6_numberOfLeadingZeros_0f7a4 := goodIn_r _ [4, 5] (by decide +kernel) (by decide +kernel)
set_option maxRecDepth 20000 in
theorem gJ13_numberOfLeadingZeros_95d88_J6_numberOfLeadingZeros_0f7a4 : GoodIn wsJ13_numberOfLeadingZeros_95d88 (va_wsS RJ13 308 yJ6_numberOfLeadingZeros_0f7a4 wsJ6_numberOfLeadingZeros_0f7a4) := goodIn_app (goodIn_of _ (by decide +kernel)) ggJ13_numberOfLeadingZeros_95d88_J6_numberOfLeadingZeros_0f7a4
theorem dJ13_numberOfLeadingZeros_95d88_0 : decode cJ13_numberOfLeadingZeros_95d88 0 = .ok (.lload_n 0, 1) := by decide +kernel
theorem dJ13_numberOfLeadingZeros_95d88_1 : decode cJ13_numberOfLeadingZeros_95d88 1 = .ok (.bipush 32, 2) := by decide +kernel
theorem dJ13_numberOfLeadingZeros_95d88_3 : decode cJ13_numberOfLeadingZeros_95d88 3 = .ok (.lushr, 1) := by decide +kernel
theorem dJ13_numberOfLeadingZeros_95d88_4 : decode cJ13_numberOfLeadingZeros_95d88 4 = .ok (.l2i, 1) := by decide +kernel
theorem dJ13_numberOfLeadingZeros_95d88_5 : decode cJ13_numberOfLeadingZeros_95d88 5 = .ok (.istore_n 2, 1) := by decide +kernel
theorem dJ13_numberOfLeadingZeros_95d88_6 : decode cJ13_numberOfLeadingZeros_95d88 6 = .ok (.iload_n 2, 1) := by decide +kernel
theorem dJ13_numberOfLeadingZeros_95d88_7 : decode cJ13_numberOfLeadingZeros_95d88 7 = .ok (.ifCond .ne 14, 3) := by decide +kernel
theorem dJ13_numberOfLeadingZeros_95d88_10 : decode cJ13_numberOfLeadingZeros_95d88 10 = .ok (.bipush 32, 2) := by decide +kernel
theorem dJ13_numberOfLeadingZeros_95d88_12 : decode cJ13_numberOfLeadingZeros_95d88 12 = .ok (.lload_n 0, 1) := by decide +kernel
theorem dJ13_numberOfLeadingZeros_95d88_13 : decode cJ13_numberOfLeadingZeros_95d88 13 = .ok (.l2i, 1) := by decide +kernel
theorem dJ13_numberOfLeadingZeros_95d88_14 : decode cJ13_numberOfLeadingZeros_95d88 14 = .ok (.invokestatic 308, 3) := by decide +kernel
theorem dJ13_numberOfLeadingZeros_95d88_17 : decode cJ13_numberOfLeadingZeros_95d88 17 = .ok (.iadd, 1) := by decide +kernel
theorem dJ13_numberOfLeadingZeros_95d88_18 : decode cJ13_numberOfLeadingZeros_95d88 18 = .ok (.goto 7, 3) := by decide +kernel
theorem dJ13_numberOfLeadingZeros_95d88_21 : decode cJ13_numberOfLeadingZeros_95d88 21 = .ok (.iload_n 2, 1) := by decide +kernel
theorem dJ13_numberOfLeadingZeros_95d88_22 : decode cJ13_numberOfLeadingZeros_95d88 22 = .ok (.invokestatic 308, 3) := by decide +kernel
theorem dJ13_numberOfLeadingZeros_95d88_25 : decode cJ13_numberOfLeadingZeros_95d88 25 = .ok (.ireturn, 1) := by decide +kernel
theorem dJ9_abs_067f4_0 : decode cJ9_abs_067f4 0 = .ok (.lload_n 0, 1) := by decide +kernel
theorem dJ9_abs_067f4_1 : decode cJ9_abs_067f4 1 = .ok (.lconst 0, 1) := by decide +kernel
theorem dJ9_abs_067f4_2 : decode cJ9_abs_067f4 2 = .ok (.lcmp, 1) := by decide +kernel
theorem dJ9_abs_067f4_3 : decode cJ9_abs_067f4 3 = .ok (.ifCond .ge 8, 3) := by decide +kernel
theorem dJ9_abs_067f4_6 : decode cJ9_abs_067f4 6 = .ok (.lload_n 0, 1) := by decide +kernel
theorem dJ9_abs_067f4_7 : decode cJ9_abs_067f4 7 = .ok (.lneg, 1) := by decide +kernel
theorem dJ9_abs_067f4_8 : decode cJ9_abs_067f4 8 = .ok (.goto 4, 3) := by decide +kernel
theorem dJ9_abs_067f4_11 : decode cJ9_abs_067f4 11 = .ok (.lload_n 0, 1) := by decide +kernel
theorem dJ9_abs_067f4_12 : decode cJ9_abs_067f4 12 = .ok (.lreturn, 1) := by decide +kernel
theorem dJ9_max_7cf53_0 : decode cJ9_max_7cf53 0 = .ok (.iload_n 0, 1) := by decide +kernel
theorem dJ9_max_7cf53_1 : decode cJ9_max_7cf53 1 = .ok (.iload_n 1, 1) := by decide +kernel
theorem dJ9_max_7cf53_2 : decode cJ9_max_7cf53 2 = .ok (.if_icmp .lt 7, 3) := by decide +kernel
theorem dJ9_max_7cf53_5 : decode cJ9_max_7cf53 5 = .ok (.iload_n 0, 1) := by decide +kernel
theorem dJ9_max_7cf53_6 : decode cJ9_max_7cf53 6 = .ok (.goto 4, 3) := by decide +kernel
theorem dJ9_max_7cf53_9 : decode cJ9_max_7cf53 9 = .ok (.iload_n 1, 1) := by decide +kernel
theorem dJ9_max_7cf53_10 : decode cJ9_max_7cf53 10 = .ok (.ireturn, 1) := by decide +kernel
theorem dJ9_max_f86c9_0 : decode cJ9_max_f86c9 0 = .ok (.lload_n 0, 1) := by decide +kernel
theorem dJ9_max_f86c9_1 : decode cJ9_max_f86c9 1 = .ok (.lload_n 2, 1) := by decide +kernel
theorem dJ9_max_f86c9_2 : decode cJ9_max_f86c9 2 = .ok (.lcmp, 1) := by decide +kernel
theorem dJ9_max_f86c9_3 : decode cJ9_max_f86c9 3 = .ok (.ifCond .lt 7, 3) := by decide +kernel
theorem dJ9_max_f86c9_6 : decode cJ9_max_f86c9 6 = .ok (.lload_n 0, 1) := by decide +kernel
theorem dJ9_max_f86c9_7 : decode cJ9_max_f86c9 7 = .ok (.goto 4, 3) := by decide +kernel
theorem dJ9_max_f86c9_10 : decode cJ9_max_f86c9 10 = .ok (.lload_n 2, 1) := by decide +kernel
theorem dJ9_max_f86c9_11 : decode cJ9_max_f86c9 11 = .ok (.lreturn, 1) := by decide +kernel
theorem dJ9_min_7cf53_0 : decode cJ9_min_7cf53 0 = .ok (.iload_n 0, 1) := by decide +kernel
theorem dJ9_min_7cf53_1 : decode cJ9_min_7cf53 1 = .ok (.iload_n 1, 1) := by decide +kernel
theorem dJ9_min_7cf53_2 : decode cJ9_min_7cf53 2 = .ok (.if_icmp .gt 7, 3) := by decide +kernel
theorem dJ9_min_7cf53_5 : decode cJ9_min_7cf53 5 = .ok (.iload_n 0, 1) := by decide +kernel
theorem dJ9_min_7cf53_6 : decode cJ9_min_7cf53 6 = .ok (.goto 4, 3) := by decide +kernel
theorem dJ9_min_7cf53_9 : decode cJ9_min_7cf53 9 = .ok (.iload_n 1, 1) := by decide +kernel
theorem dJ9_min_7cf53_10 : decode cJ9_min_7cf53 10 = .ok (.ireturn, 1) := by decide +kernel
theorem dJ9_min_f86c9_0 : decode cJ9_min_f86c9 0 = .ok (.lload_n 0, 1) := by decide +kernel
theorem dJ9_min_f86c9_1 : decode cJ9_min_f86c9 1 = .ok (.lload_n 2, 1) := by decide +kernel
theorem dJ9_min_f86c9_2 : decode cJ9_min_f86c9 2 = .ok (.lcmp, 1) := by decide +kernel
theorem dJ9_min_f86c9_3 : decode cJ9_min_f86c9 3 = .ok (.ifCond .gt 7, 3) := by decide +kernel
theorem dJ9_min_f86c9_6 : decode cJ9_min_f86c9 6 = .ok (.lload_n 0, 1) := by decide +kernel
theorem dJ9_min_f86c9_7 : decode cJ9_min_f86c9 7 = .ok (.goto 4, 3) := by decide +kernel
theorem dJ9_min_f86c9_10 : decode cJ9_min_f86c9 10 = .ok (.lload_n 2, 1) := by decide +kernel
theorem dJ9_min_f86c9_11 : decode cJ9_min_f86c9 11 = .ok (.lreturn, 1) := by decide +kernel
end
section
set_option maxRecDepth 20000 in
theorem ggX7_init_X5_init : GoodIn wsX7_init wsX5_init := goodIn_r _ [21, 22, 2, 3, 23, 24, 25, 36, 37] (by decide +kernel) (by decide +kernel)
set_option maxRecDepth 20000 in
theorem gX7_init_X5_init_n51 : GoodIn wsX7_init (wsX5_init) := ggX7_init_X5_init
theorem dX7_init_0 : decode cX7_init 0 = .ok (.aload_n 0, 1) := by decide +kernel
theorem dX7_init_1 : decode cX7_init 1 = .ok (.invokespecial 1, 3) := by decide +kernel
theorem dX7_init_4 : decode cX7_init 4 = .ok (.aload_n 0, 1) := by decide +kernel
theorem dX7_init_5 : decode cX7_init 5 = .ok (.bipush 12, 2) := by decide +kernel
theorem dX7_init_7 : decode cX7_init 7 = .ok (.anewarray 9, 3) := by decide +kernel
theorem dX7_init_10 : decode cX7_init 10 = .ok (.putfield 11, 3) := by decide +kernel
theorem dX7_init_13 : decode cX7_init 13 = .ok (.aload_n 0, 1) := by decide +kernel
theorem dX7_init_14 : decode cX7_init 14 = .ok (.iconst 0, 1) := by decide +kernel
theorem dX7_init_15 : decode cX7_init 15 = .ok (.putfield 15, 3) := by decide +kernel
theorem dX7_init_18 : decode cX7_init 18 = .ok (.aload_n 0, 1) := by decide +kernel
theorem dX7_init_19 : decode cX7_init 19 = .ok (.bipush 20, 2) := by decide +kernel
theorem dX7_init_21 : decode cX7_init 21 = .ok (.anewarray 19, 3) := by decide +kernel
theorem dX7_init_24 : decode cX7_init 24 = .ok (.putfield 21, 3) := by decide +kernel
theorem dX7_init_27 : decode cX7_init 27 = .ok (.aload_n 0, 1) := by decide +kernel
theorem dX7_init_28 : decode cX7_init 28 = .ok (.iconst 0, 1) := by decide +kernel
theorem dX7_init_29 : decode cX7_init 29 = .ok (.putfield 25, 3) := by decide +kernel
theorem dX7_init_32 : decode cX7_init 32 = .ok (.aload_n 0, 1) := by decide +kernel
theorem dX7_init_33 : decode cX7_init 33 = .ok (.bipush 6, 2) := by decide +kernel
theorem dX7_init_35 : decode cX7_init 35 = .ok (.anewarray 19, 3) := by decide +kernel
theorem dX7_init_38 : decode cX7_init 38 = .ok (.putfield 28, 3) := by decide +kernel
theorem dX7_init_41 : decode cX7_init 41 = .ok (.aload_n 0, 1) := by decide +kernel
theorem dX7_init_42 : decode cX7_init 42 = .ok (.bipush 8, 2) := by decide +kernel
theorem dX7_init_44 : decode cX7_init 44 = .ok (.anewarray 19, 3) := by decide +kernel
theorem dX7_init_47 : decode cX7_init 47 = .ok (.putfield 31, 3) := by decide +kernel
theorem dX7_init_50 : decode cX7_init 50 = .ok (.aload_n 0, 1) := by decide +kernel
theorem dX7_init_51 : decode cX7_init 51 = .ok (.bipush 16, 2) := by decide +kernel
theorem dX7_init_53 : decode cX7_init 53 = .ok (.anewarray 34, 3) := by decide +kernel
theorem dX7_init_56 : decode cX7_init 56 = .ok (.putfield 36, 3) := by decide +kernel
theorem dX7_init_59 : decode cX7_init 59 = .ok (.aload_n 0, 1) := by decide +kernel
theorem dX7_init_60 : decode cX7_init 60 = .ok (.lconst 0, 1) := by decide +kernel
theorem dX7_init_61 : decode cX7_init 61 = .ok (.putfield 40, 3) := by decide +kernel
theorem dX7_init_64 : decode cX7_init 64 = .ok (.aload_n 0, 1) := by decide +kernel
theorem dX7_init_65 : decode cX7_init 65 = .ok (.iconst 0, 1) := by decide +kernel
theorem dX7_init_66 : decode cX7_init 66 = .ok (.putfield 44, 3) := by decide +kernel
theorem dX7_init_69 : decode cX7_init 69 = .ok (.aload_n 0, 1) := by decide +kernel
theorem dX7_init_70 : decode cX7_init 70 = .ok (.iconst 5, 1) := by decide +kernel
theorem dX7_init_71 : decode cX7_init 71 = .ok (.newarray .int, 2) := by decide +kernel
theorem dX7_init_73 : decode cX7_init 73 = .ok (.putfield 47, 3) := by decide +kernel
theorem dX7_init_76 : decode cX7_init 76 = .ok (.iconst 0, 1) := by decide +kernel
theorem dX7_init_77 : decode cX7_init 77 = .ok (.istore_n 1, 1) := by decide +kernel
theorem dX7_init_78 : decode cX7_init 78 = .ok (.iload_n 1, 1) := by decide +kernel
theorem dX7_init_79 : decode cX7_init 79 = .ok (.aload_n 0, 1) := by decide +kernel
theorem dX7_init_80 : decode cX7_init 80 = .ok (.getfield 36, 3) := by decide +kernel
theorem dX7_init_83 : decode cX7_init 83 = .ok (.arraylength, 1) := by decide +kernel
theorem dX7_init_84 : decode cX7_init 84 = .ok (.if_icmp .ge 22, 3) := by decide +kernel
theorem dX7_init_87 : decode cX7_init 87 = .ok (.aload_n 0, 1) := by decide +kernel
theorem dX7_init_88 : decode cX7_init 88 = .ok (.getfield 36, 3) := by decide +kernel
theorem dX7_init_91 : decode cX7_init 91 = .ok (.iload_n 1, 1) := by decide +kernel
theorem dX7_init_92 : decode cX7_init 92 = .ok (.new 34, 3) := by decide +kernel
theorem dX7_init_95 : decode cX7_init 95 = .ok (.dup, 1) := by decide +kernel
theorem dX7_init_96 : decode cX7_init 96 = .ok (.invokespecial 51, 3) := by decide +kernel
theorem dX7_init_99 : decode cX7_init 99 = .ok (.aastore, 1) := by decide +kernel
theorem dX7_init_100 : decode cX7_init 100 = .ok (.iinc 1 1, 3) := by decide +kernel
theorem dX7_init_103 : decode cX7_init 103 = .ok (.goto (-25), 3) := by decide +kernel
theorem dX7_init_106 : decode cX7_init 106 = .ok (.return_, 1) := by decide +kernel
set_option maxRecDepth 20000 in
theorem ggX7_dial_X4_told : GoodIn wsX7_dial wsX4_told := goodIn_r _ [9] (by decide +kernel) (by decide +kernel)
set_option maxRecDepth 20000 in
theorem gX7_dial_X4_told : GoodIn wsX7_dial (va_wsS RX7 52 yX4_told wsX4_told) := goodIn_app (goodIn_of _ (by decide +kernel)) ggX7_dial_X4_told
set_option maxRecDepth 20000 in
theorem ggX7_dial_X4_isFit : GoodIn wsX7_dial wsX4_isFit := goodIn_r _ [12, 13, 14, 8, 15, 16, 17, 18, 19, 20, 21, 22] (by decide +kernel) (by decide +kernel)
set_option maxRecDepth 20000 in
theorem gX7_dial_X4_isFit : GoodIn wsX7_dial (va_wsS RX7 58 yX4_isFit wsX4_isFit) := goodIn_app (goodIn_of _ (by decide +kernel)) ggX7_dial_X4_isFit
set_option maxRecDepth 20000 in
theorem ggX7_dial_X4_isZero : GoodIn wsX7_dial wsX4_isZero := goodIn_r _ [25, 13, 14, 8, 15, 16, 17] (by decide +kernel) (by decide +kernel)
set_option maxRecDepth 20000 in
theorem gX7_dial_X4_isZero : GoodIn wsX7_dial (va_wsS RX7 62 yX4_isZero wsX4_isZero) := goodIn_app (goodIn_of _ (by decide +kernel)) ggX7_dial_X4_isZero
set_option maxRecDepth 20000 in
theorem ggX7_dial_X1_init : GoodIn wsX7_dial wsX1_init := goodIn_r _ [28, 29, 30, 31, 32, 33, 34, 35, 46, 47, 48, 49] (by decide +kernel) (by decide +kernel)
set_option maxRecDepth 20000 in
theorem gX7_dial_X1_init : GoodIn wsX7_dial (wsX1_init) := ggX7_dial_X1_init
theorem dX7_dial_0 : decode cX7_dial 0 = .ok (.iload_n 1, 1) := by decide +kernel
theorem dX7_dial_1 : decode cX7_dial 1 = .ok (.lload_n 2, 1) := by decide +kernel
theorem dX7_dial_2 : decode cX7_dial 2 = .ok (.invokestatic 52, 3) := by decide +kernel
theorem dX7_dial_5 : decode cX7_dial 5 = .ok (.lstore 4, 2) := by decide +kernel
theorem dX7_dial_7 : decode cX7_dial 7 = .ok (.iload_n 1, 1) := by decide +kernel
theorem dX7_dial_8 : decode cX7_dial 8 = .ok (.lload 4, 2) := by decide +kernel
theorem dX7_dial_10 : decode cX7_dial 10 = .ok (.invokestatic 58, 3) := by decide +kernel
theorem dX7_dial_13 : decode cX7_dial 13 = .ok (.ifCond .eq 12, 3) := by decide +kernel
theorem dX7_dial_16 : decode cX7_dial 16 = .ok (.iload_n 1, 1) := by decide +kernel
theorem dX7_dial_17 : decode cX7_dial 17 = .ok (.lload 4, 2) := by decide +kernel
theorem dX7_dial_19 : decode cX7_dial 19 = .ok (.invokestatic 62, 3) := by decide +kernel
theorem dX7_dial_22 : decode cX7_dial 22 = .ok (.ifCond .eq 6, 3) := by decide +kernel
theorem dX7_dial_25 : decode cX7_dial 25 = .ok (.bipush (-102), 2) := by decide +kernel
theorem dX7_dial_27 : decode cX7_dial 27 = .ok (.ireturn, 1) := by decide +kernel
theorem dX7_dial_28 : decode cX7_dial 28 = .ok (.aload_n 0, 1) := by decide +kernel
theorem dX7_dial_29 : decode cX7_dial 29 = .ok (.getfield 15, 3) := by decide +kernel
theorem dX7_dial_32 : decode cX7_dial 32 = .ok (.bipush 12, 2) := by decide +kernel
theorem dX7_dial_34 : decode cX7_dial 34 = .ok (.if_icmp .lt 6, 3) := by decide +kernel
theorem dX7_dial_37 : decode cX7_dial 37 = .ok (.bipush (-103), 2) := by decide +kernel
theorem dX7_dial_39 : decode cX7_dial 39 = .ok (.ireturn, 1) := by decide +kernel
theorem dX7_dial_40 : decode cX7_dial 40 = .ok (.aload_n 0, 1) := by decide +kernel
theorem dX7_dial_41 : decode cX7_dial 41 = .ok (.getfield 11, 3) := by decide +kernel
theorem dX7_dial_44 : decode cX7_dial 44 = .ok (.aload_n 0, 1) := by decide +kernel
theorem dX7_dial_45 : decode cX7_dial 45 = .ok (.getfield 15, 3) := by decide +kernel
theorem dX7_dial_48 : decode cX7_dial 48 = .ok (.new 9, 3) := by decide +kernel
theorem dX7_dial_51 : decode cX7_dial 51 = .ok (.dup, 1) := by decide +kernel
theorem dX7_dial_52 : decode cX7_dial 52 = .ok (.iload_n 1, 1) := by decide +kernel
theorem dX7_dial_53 : decode cX7_dial 53 = .ok (.lload 4, 2) := by decide +kernel
theorem dX7_dial_55 : decode cX7_dial 55 = .ok (.invokespecial 65, 3) := by decide +kernel
theorem dX7_dial_58 : decode cX7_dial 58 = .ok (.aastore, 1) := by decide +kernel
theorem dX7_dial_59 : decode cX7_dial 59 = .ok (.aload_n 0, 1) := by decide +kernel
theorem dX7_dial_60 : decode cX7_dial 60 = .ok (.dup, 1) := by decide +kernel
theorem dX7_dial_61 : decode cX7_dial 61 = .ok (.getfield 15, 3) := by decide +kernel
theorem dX7_dial_64 : decode cX7_dial 64 = .ok (.dup_x1, 1) := by decide +kernel
theorem dX7_dial_65 : decode cX7_dial 65 = .ok (.iconst 1, 1) := by decide +kernel
theorem dX7_dial_66 : decode cX7_dial 66 = .ok (.iadd, 1) := by decide +kernel
theorem dX7_dial_67 : decode cX7_dial 67 = .ok (.putfield 15, 3) := by decide +kernel
theorem dX7_dial_70 : decode cX7_dial 70 = .ok (.ireturn, 1) := by decide +kernel
set_option maxRecDepth 20000 in
theorem ggX7_turn_X7_dialAt : GoodIn wsX7_turn wsX7_dialAt := goodIn_r _ [6, 7, 8, 110, 111, 112, 113, 114, 115, 116, 117, 118, 119] (by decide +kernel) (by decide +kernel)
set_option maxRecDepth 20000 in
theorem gX7_turn_X7_dialAt : GoodIn wsX7_turn (wsV RX7 68 RX7 yX7_dialAt wsX7_dialAt) := goodIn_app (goodIn_of _ (by decide +kernel)) ggX7_turn_X7_dialAt
set_option maxRecDepth 20000 in
theorem ggX7_turn_X4_told : GoodIn wsX7_turn wsX4_told := goodIn_r _ [12] (by decide +kernel) (by decide +kernel)
set_option maxRecDepth 20000 in
theorem gX7_turn_X4_told : GoodIn wsX7_turn (va_wsS RX7 52 yX4_told wsX4_told) := goodIn_app (goodIn_of _ (by decide +kernel)) ggX7_turn_X4_told
set_option maxRecDepth 20000 in
theorem ggX7_turn_X4_isFit : GoodIn wsX7_turn wsX4_isFit := goodIn_r _ [15, 16, 17, 11, 18, 19, 20, 21, 22, 23, 24, 25] (by decide +kernel) (by decide +kernel)
set_option maxRecDepth 20000 in
theorem gX7_turn_X4_isFit : GoodIn wsX7_turn (va_wsS RX7 58 yX4_isFit wsX4_isFit) := goodIn_app (goodIn_of _ (by decide +kernel)) ggX7_turn_X4_isFit
set_option maxRecDepth 20000 in
theorem ggX7_turn_X1_turnBy : GoodIn wsX7_turn wsX1_turnBy := goodIn_r _ [30, 31, 32, 33, 34, 35, 36, 11, 37, 16, 17, 18, 19, 20, 38, 39, 40, 41, 42, 43, 44, 45, 46, 47, 48, 49, 50, 51, 52, 53, 54, 55, 56, 57, 58, 59, 60, 61, 62, 63, 64, 65, 66, 67, 68, 69, 70, 71, 72, 73, 74, 75, 76, 77, 78, 79, 21, 22, 23, 24, 25, 80, 81, 82, 83, 14, 15, 84, 85, 86, 87, 88, 89, 90, 91, 92, 93, 94, 95, 106, 107, 108, 109] (by decide +kernel) (by decide +kernel)
set_option maxRecDepth 20000 in
theorem gX7_turn_X1_turnBy : GoodIn wsX7_turn (wsV RX7 76 RX1 yX1_turnBy wsX1_turnBy) := goodIn_app (goodIn_of _ (by decide +kernel)) ggX7_turn_X1_turnBy
set_option maxRecDepth 20000 in
theorem ggX7_turn_X7_done : GoodIn wsX7_turn wsX7_done := goodIn_r _ [99, 100, 110, 111, 112, 113, 114, 115, 116, 117, 118, 119] (by decide +kernel) (by decide +kernel)
set_option maxRecDepth 20000 in
theorem gX7_turn_X7_done : GoodIn wsX7_turn (wsV RX7 80 RX7 yX7_done wsX7_done) := goodIn_app (goodIn_of _ (by decide +kernel)) ggX7_turn_X7_done
set_option maxRecDepth 20000 in
theorem ggX7_turn_X7_failWith : GoodIn wsX7_turn wsX7_failWith := goodIn_r _ [104, 100, 105, 110, 111, 112, 113, 114, 115, 116, 117, 118, 119] (by decide +kernel) (by decide +kernel)
set_option maxRecDepth 20000 in
theorem gX7_turn_X7_failWith : GoodIn wsX7_turn (wsV RX7 84 RX7 yX7_failWith wsX7_failWith) := goodIn_app (goodIn_of _ (by decide +kernel)) ggX7_turn_X7_failWith
theorem dX7_turn_0 : decode cX7_turn 0 = .ok (.aload_n 0, 1) := by decide +kernel
theorem dX7_turn_1 : decode cX7_turn 1 = .ok (.iload_n 1, 1) := by decide +kernel
theorem dX7_turn_2 : decode cX7_turn 2 = .ok (.invokevirtual 68, 3) := by decide +kernel
theorem dX7_turn_5 : decode cX7_turn 5 = .ok (.astore 4, 2) := by decide +kernel
theorem dX7_turn_7 : decode cX7_turn 7 = .ok (.aload 4, 2) := by decide +kernel
theorem dX7_turn_9 : decode cX7_turn 9 = .ok (.ifnonnull 6, 3) := by decide +kernel
theorem dX7_turn_12 : decode cX7_turn 12 = .ok (.bipush (-101), 2) := by decide +kernel
theorem dX7_turn_14 : decode cX7_turn 14 = .ok (.ireturn, 1) := by decide +kernel
theorem dX7_turn_15 : decode cX7_turn 15 = .ok (.aload 4, 2) := by decide +kernel
theorem dX7_turn_17 : decode cX7_turn 17 = .ok (.getfield 72, 3) := by decide +kernel
theorem dX7_turn_20 : decode cX7_turn 20 = .ok (.lload_n 2, 1) := by decide +kernel
theorem dX7_turn_21 : decode cX7_turn 21 = .ok (.invokestatic 52, 3) := by decide +kernel
theorem dX7_turn_24 : decode cX7_turn 24 = .ok (.lstore 5, 2) := by decide +kernel
theorem dX7_turn_26 : decode cX7_turn 26 = .ok (.aload 4, 2) := by decide +kernel
theorem dX7_turn_28 : decode cX7_turn 28 = .ok (.getfield 72, 3) := by decide +kernel
theorem dX7_turn_31 : decode cX7_turn 31 = .ok (.lload 5, 2) := by decide +kernel
theorem dX7_turn_33 : decode cX7_turn 33 = .ok (.invokestatic 58, 3) := by decide +kernel
theorem dX7_turn_36 : decode cX7_turn 36 = .ok (.ifCond .ne 6, 3) := by decide +kernel
theorem dX7_turn_39 : decode cX7_turn 39 = .ok (.bipush (-102), 2) := by decide +kernel
theorem dX7_turn_41 : decode cX7_turn 41 = .ok (.ireturn, 1) := by decide +kernel
theorem dX7_turn_42 : decode cX7_turn 42 = .ok (.aload 4, 2) := by decide +kernel
theorem dX7_turn_44 : decode cX7_turn 44 = .ok (.lload 5, 2) := by decide +kernel
theorem dX7_turn_46 : decode cX7_turn 46 = .ok (.invokevirtual 76, 3) := by decide +kernel
theorem dX7_turn_49 : decode cX7_turn 49 = .ok (.ifCond .eq 11, 3) := by decide +kernel
theorem dX7_turn_52 : decode cX7_turn 52 = .ok (.aload_n 0, 1) := by decide +kernel
theorem dX7_turn_53 : decode cX7_turn 53 = .ok (.iconst 1, 1) := by decide +kernel
theorem dX7_turn_54 : decode cX7_turn 54 = .ok (.invokevirtual 80, 3) := by decide +kernel
theorem dX7_turn_57 : decode cX7_turn 57 = .ok (.goto 9, 3) := by decide +kernel
theorem dX7_turn_60 : decode cX7_turn 60 = .ok (.aload_n 0, 1) := by decide +kernel
theorem dX7_turn_61 : decode cX7_turn 61 = .ok (.bipush (-15), 2) := by decide +kernel
theorem dX7_turn_63 : decode cX7_turn 63 = .ok (.invokevirtual 84, 3) := by decide +kernel
theorem dX7_turn_66 : decode cX7_turn 66 = .ok (.ireturn, 1) := by decide +kernel
set_option maxRecDepth 20000 in
theorem ggX7_spin_X7_dialAt : GoodIn wsX7_spin wsX7_dialAt := goodIn_r _ [6, 7, 8, 110, 111, 112, 113, 114, 115, 116, 117, 118, 119] (by decide +kernel) (by decide +kernel)
set_option maxRecDepth 20000 in
theorem gX7_spin_X7_dialAt : GoodIn wsX7_spin (wsV RX7 68 RX7 yX7_dialAt wsX7_dialAt) := goodIn_app (goodIn_of _ (by decide +kernel)) ggX7_spin_X7_dialAt
set_option maxRecDepth 20000 in
theorem ggX7_spin_X4_told : GoodIn wsX7_spin wsX4_told := goodIn_r _ [12] (by decide +kernel) (by decide +kernel)
set_option maxRecDepth 20000 in
theorem gX7_spin_X4_told : GoodIn wsX7_spin (va_wsS RX7 52 yX4_told wsX4_told) := goodIn_app (goodIn_of _ (by decide +kernel)) ggX7_spin_X4_told
set_option maxRecDepth 20000 in
theorem ggX7_spin_X4_isFit : GoodIn wsX7_spin wsX4_isFit := goodIn_r _ [15, 16, 17, 11, 18, 19, 20, 21, 22, 23, 24, 25] (by decide +kernel) (by decide +kernel)
set_option maxRecDepth 20000 in
theorem gX7_spin_X4_isFit : GoodIn wsX7_spin (va_wsS RX7 58 yX4_isFit wsX4_isFit) := goodIn_app (goodIn_of _ (by decide +kernel)) ggX7_spin_X4_isFit
set_option maxRecDepth 20000 in
theorem ggX7_spin_X1_turnBy : GoodIn wsX7_spin wsX1_turnBy := goodIn_r _ [30, 31, 32, 33, 34, 35, 36, 11, 37, 16, 17, 18, 19, 20, 38, 39, 40, 41, 42, 43, 44, 45, 46, 47, 48, 49, 50, 51, 52, 53, 54, 55, 56, 57, 58, 59, 60, 61, 62, 63, 64, 65, 66, 67, 68, 69, 70, 71, 72, 73, 74, 75, 76, 77, 78, 79, 21, 22, 23, 24, 25, 80, 81, 82, 83, 14, 15, 84, 85, 86, 87, 88, 89, 90, 91, 92, 93, 94, 95, 106, 107, 108, 109] (by decide +kernel) (by decide +kernel)
set_option maxRecDepth 20000 in
theorem gX7_spin_X1_turnBy : GoodIn wsX7_spin (wsV RX7 76 RX1 yX1_turnBy wsX1_turnBy) := goodIn_app (goodIn_of _ (by decide +kernel)) ggX7_spin_X1_turnBy
set_option maxRecDepth 20000 in
theorem ggX7_spin_X7_failWith : GoodIn wsX7_spin wsX7_failWith := goodIn_r _ [99, 100, 101, 110, 111, 112, 113, 114, 115, 116, 117, 118, 119] (by decide +kernel) (by decide +kernel)
set_option maxRecDepth 20000 in
theorem gX7_spin_X7_failWith : GoodIn wsX7_spin (wsV RX7 84 RX7 yX7_failWith wsX7_failWith) := goodIn_app (goodIn_of _ (by decide +kernel)) ggX7_spin_X7_failWith
set_option maxRecDepth 20000 in
theorem ggX7_spin_X7_done : GoodIn wsX7_spin wsX7_done := goodIn_r _ [105, 100, 110, 111, 112, 113, 114, 115, 116, 117, 118, 119] (by decide +kernel) (by decide +kernel)
set_option maxRecDepth 20000 in
theorem gX7_spin_X7_done : GoodIn wsX7_spin (wsV RX7 80 RX7 yX7_done wsX7_done) := goodIn_app (goodIn_of _ (by decide +kernel)) ggX7_spin_X7_done
theorem dX7_spin_0 : decode cX7_spin 0 = .ok (.aload_n 0, 1) := by decide +kernel
theorem dX7_spin_1 : decode cX7_spin 1 = .ok (.iload_n 1, 1) := by decide +kernel
theorem dX7_spin_2 : decode cX7_spin 2 = .ok (.invokevirtual 68, 3) := by decide +kernel
theorem dX7_spin_5 : decode cX7_spin 5 = .ok (.astore 5, 2) := by decide +kernel
theorem dX7_spin_7 : decode cX7_spin 7 = .ok (.aload 5, 2) := by decide +kernel
theorem dX7_spin_9 : decode cX7_spin 9 = .ok (.ifnonnull 6, 3) := by decide +kernel
theorem dX7_spin_12 : decode cX7_spin 12 = .ok (.bipush (-101), 2) := by decide +kernel
theorem dX7_spin_14 : decode cX7_spin 14 = .ok (.ireturn, 1) := by decide +kernel
theorem dX7_spin_15 : decode cX7_spin 15 = .ok (.aload 5, 2) := by decide +kernel
theorem dX7_spin_17 : decode cX7_spin 17 = .ok (.getfield 72, 3) := by decide +kernel
theorem dX7_spin_20 : decode cX7_spin 20 = .ok (.lload_n 2, 1) := by decide +kernel
theorem dX7_spin_21 : decode cX7_spin 21 = .ok (.invokestatic 52, 3) := by decide +kernel
theorem dX7_spin_24 : decode cX7_spin 24 = .ok (.lstore 6, 2) := by decide +kernel
theorem dX7_spin_26 : decode cX7_spin 26 = .ok (.aload 5, 2) := by decide +kernel
theorem dX7_spin_28 : decode cX7_spin 28 = .ok (.getfield 72, 3) := by decide +kernel
theorem dX7_spin_31 : decode cX7_spin 31 = .ok (.lload 6, 2) := by decide +kernel
theorem dX7_spin_33 : decode cX7_spin 33 = .ok (.invokestatic 58, 3) := by decide +kernel
theorem dX7_spin_36 : decode cX7_spin 36 = .ok (.ifCond .eq 15, 3) := by decide +kernel
theorem dX7_spin_39 : decode cX7_spin 39 = .ok (.iload 4, 2) := by decide +kernel
theorem dX7_spin_41 : decode cX7_spin 41 = .ok (.ifCond .lt 10, 3) := by decide +kernel
theorem dX7_spin_44 : decode cX7_spin 44 = .ok (.iload 4, 2) := by decide +kernel
theorem dX7_spin_46 : decode cX7_spin 46 = .ok (.bipush 40, 2) := by decide +kernel
theorem dX7_spin_48 : decode cX7_spin 48 = .ok (.if_icmp .le 6, 3) := by decide +kernel
theorem dX7_spin_51 : decode cX7_spin 51 = .ok (.bipush (-102), 2) := by decide +kernel
theorem dX7_spin_53 : decode cX7_spin 53 = .ok (.ireturn, 1) := by decide +kernel
theorem dX7_spin_54 : decode cX7_spin 54 = .ok (.iconst 0, 1) := by decide +kernel
theorem dX7_spin_55 : decode cX7_spin 55 = .ok (.istore 8, 2) := by decide +kernel
theorem dX7_spin_57 : decode cX7_spin 57 = .ok (.iload 8, 2) := by decide +kernel
theorem dX7_spin_59 : decode cX7_spin 59 = .ok (.iload 4, 2) := by decide +kernel
theorem dX7_spin_61 : decode cX7_spin 61 = .ok (.if_icmp .ge 29, 3) := by decide +kernel
theorem dX7_spin_64 : decode cX7_spin 64 = .ok (.aload 5, 2) := by decide +kernel
theorem dX7_spin_66 : decode cX7_spin 66 = .ok (.lload 6, 2) := by decide +kernel
theorem dX7_spin_68 : decode cX7_spin 68 = .ok (.invokevirtual 76, 3) := by decide +kernel
theorem dX7_spin_71 : decode cX7_spin 71 = .ok (.ifCond .ne 13, 3) := by decide +kernel
theorem dX7_spin_74 : decode cX7_spin 74 = .ok (.aload_n 0, 1) := by decide +kernel
theorem dX7_spin_75 : decode cX7_spin 75 = .ok (.bipush (-15), 2) := by decide +kernel
theorem dX7_spin_77 : decode cX7_spin 77 = .ok (.invokevirtual 84, 3) := by decide +kernel
theorem dX7_spin_80 : decode cX7_spin 80 = .ok (.pop, 1) := by decide +kernel
theorem dX7_spin_81 : decode cX7_spin 81 = .ok (.iload 8, 2) := by decide +kernel
theorem dX7_spin_83 : decode cX7_spin 83 = .ok (.ireturn, 1) := by decide +kernel
theorem dX7_spin_84 : decode cX7_spin 84 = .ok (.iinc 8 1, 3) := by decide +kernel
theorem dX7_spin_87 : decode cX7_spin 87 = .ok (.goto (-30), 3) := by decide +kernel
theorem dX7_spin_90 : decode cX7_spin 90 = .ok (.aload_n 0, 1) := by decide +kernel
theorem dX7_spin_91 : decode cX7_spin 91 = .ok (.iload 4, 2) := by decide +kernel
theorem dX7_spin_93 : decode cX7_spin 93 = .ok (.invokevirtual 80, 3) := by decide +kernel
theorem dX7_spin_96 : decode cX7_spin 96 = .ok (.ireturn, 1) := by decide +kernel
set_option maxRecDepth 20000 in
theorem ggX7_place_X7_dialAt : GoodIn wsX7_place wsX7_dialAt := goodIn_r _ [7, 8, 9, 14, 15, 16, 17, 18, 19, 20, 21, 22, 23] (by decide +kernel) (by decide +kernel)
set_option maxRecDepth 20000 in
theorem gX7_place_X7_dialAt : GoodIn wsX7_place (wsV RX7 68 RX7 yX7_dialAt wsX7_dialAt) := goodIn_app (goodIn_of _ (by decide +kernel)) ggX7_place_X7_dialAt
theorem dX7_place_0 : decode cX7_place 0 = .ok (.aload_n 0, 1) := by decide +kernel
theorem dX7_place_1 : decode cX7_place 1 = .ok (.iload_n 1, 1) := by decide +kernel
theorem dX7_place_2 : decode cX7_place 2 = .ok (.invokevirtual 68, 3) := by decide +kernel
theorem dX7_place_5 : decode cX7_place 5 = .ok (.astore_n 3, 1) := by decide +kernel
theorem dX7_place_6 : decode cX7_place 6 = .ok (.aload_n 3, 1) := by decide +kernel
theorem dX7_place_7 : decode cX7_place 7 = .ok (.ifnonnull 5, 3) := by decide +kernel
theorem dX7_place_10 : decode cX7_place 10 = .ok (.lconst 0, 1) := by decide +kernel
theorem dX7_place_11 : decode cX7_place 11 = .ok (.lreturn, 1) := by decide +kernel
theorem dX7_place_12 : decode cX7_place 12 = .ok (.iload_n 2, 1) := by decide +kernel
theorem dX7_place_13 : decode cX7_place 13 = .ok (.ifCond .ne 8, 3) := by decide +kernel
theorem dX7_place_16 : decode cX7_place 16 = .ok (.aload_n 3, 1) := by decide +kernel
theorem dX7_place_17 : decode cX7_place 17 = .ok (.getfield 87, 3) := by decide +kernel
theorem dX7_place_20 : decode cX7_place 20 = .ok (.lreturn, 1) := by decide +kernel
theorem dX7_place_21 : decode cX7_place 21 = .ok (.iload_n 2, 1) := by decide +kernel
theorem dX7_place_22 : decode cX7_place 22 = .ok (.iconst 1, 1) := by decide +kernel
theorem dX7_place_23 : decode cX7_place 23 = .ok (.if_icmp .ne 10, 3) := by decide +kernel
theorem dX7_place_26 : decode cX7_place 26 = .ok (.aload_n 3, 1) := by decide +kernel
theorem dX7_place_27 : decode cX7_place 27 = .ok (.getfield 90, 3) := by decide +kernel
theorem dX7_place_30 : decode cX7_place 30 = .ok (.goto 4, 3) := by decide +kernel
theorem dX7_place_33 : decode cX7_place 33 = .ok (.lconst 0, 1) := by decide +kernel
theorem dX7_place_34 : decode cX7_place 34 = .ok (.lreturn, 1) := by decide +kernel
set_option maxRecDepth 20000 in
theorem ggX7_laps_X7_dialAt : GoodIn wsX7_laps wsX7_dialAt := goodIn_r _ [6, 7, 8, 13, 14, 15, 16, 17, 18, 19, 20, 21, 22] (by decide +kernel) (by decide +kernel)
set_option maxRecDepth 20000 in
theorem gX7_laps_X7_dialAt : GoodIn wsX7_laps (wsV RX7 68 RX7 yX7_dialAt wsX7_dialAt) := goodIn_app (goodIn_of _ (by decide +kernel)) ggX7_laps_X7_dialAt
theorem dX7_laps_0 : decode cX7_laps 0 = .ok (.aload_n 0, 1) := by decide +kernel
theorem dX7_laps_1 : decode cX7_laps 1 = .ok (.iload_n 1, 1) := by decide +kernel
theorem dX7_laps_2 : decode cX7_laps 2 = .ok (.invokevirtual 68, 3) := by decide +kernel
theorem dX7_laps_5 : decode cX7_laps 5 = .ok (.astore_n 2, 1) := by decide +kernel
theorem dX7_laps_6 : decode cX7_laps 6 = .ok (.aload_n 2, 1) := by decide +kernel
theorem dX7_laps_7 : decode cX7_laps 7 = .ok (.ifnonnull 7, 3) := by decide +kernel
theorem dX7_laps_10 : decode cX7_laps 10 = .ok (.lconst 0, 1) := by decide +kernel
theorem dX7_laps_11 : decode cX7_laps 11 = .ok (.goto 7, 3) := by decide +kernel
theorem dX7_laps_14 : decode cX7_laps 14 = .ok (.aload_n 2, 1) := by decide +kernel
theorem dX7_laps_15 : decode cX7_laps 15 = .ok (.getfield 93, 3) := by decide +kernel
theorem dX7_laps_18 : decode cX7_laps 18 = .ok (.lreturn, 1) := by decide +kernel
set_option maxRecDepth 20000 in
theorem ggX7_fine_X7_dialAt : GoodIn wsX7_fine wsX7_dialAt := goodIn_r _ [6, 7, 8, 13, 14, 15, 16, 17, 18, 19, 20, 21, 22] (by decide +kernel) (by decide +kernel)
set_option maxRecDepth 20000 in
theorem gX7_fine_X7_dialAt : GoodIn wsX7_fine (wsV RX7 68 RX7 yX7_dialAt wsX7_dialAt) := goodIn_app (goodIn_of _ (by decide +kernel)) ggX7_fine_X7_dialAt
theorem dX7_fine_0 : decode cX7_fine 0 = .ok (.aload_n 0, 1) := by decide +kernel
theorem dX7_fine_1 : decode cX7_fine 1 = .ok (.iload_n 1, 1) := by decide +kernel
theorem dX7_fine_2 : decode cX7_fine 2 = .ok (.invokevirtual 68, 3) := by decide +kernel
theorem dX7_fine_5 : decode cX7_fine 5 = .ok (.astore_n 2, 1) := by decide +kernel
theorem dX7_fine_6 : decode cX7_fine 6 = .ok (.aload_n 2, 1) := by decide +kernel
theorem dX7_fine_7 : decode cX7_fine 7 = .ok (.ifnonnull 6, 3) := by decide +kernel
theorem dX7_fine_10 : decode cX7_fine 10 = .ok (.bipush (-101), 2) := by decide +kernel
theorem dX7_fine_12 : decode cX7_fine 12 = .ok (.ireturn, 1) := by decide +kernel
theorem dX7_fine_13 : decode cX7_fine 13 = .ok (.aload_n 2, 1) := by decide +kernel
theorem dX7_fine_14 : decode cX7_fine 14 = .ok (.getfield 72, 3) := by decide +kernel
theorem dX7_fine_17 : decode cX7_fine 17 = .ok (.ifCond .eq 7, 3) := by decide +kernel
theorem dX7_fine_20 : decode cX7_fine 20 = .ok (.iconst 1, 1) := by decide +kernel
theorem dX7_fine_21 : decode cX7_fine 21 = .ok (.goto 4, 3) := by decide +kernel
theorem dX7_fine_24 : decode cX7_fine 24 = .ok (.iconst 0, 1) := by decide +kernel
theorem dX7_fine_25 : decode cX7_fine 25 = .ok (.ireturn, 1) := by decide +kernel
set_option maxRecDepth 20000 in
theorem ggX7_drive_X4_isFit : GoodIn wsX7_drive wsX4_isFit := goodIn_r _ [6, 7, 8, 5, 9, 10, 11, 12, 13, 14, 15, 16] (by decide +kernel) (by decide +kernel)
set_option maxRecDepth 20000 in
theorem gX7_drive_X4_isFit : GoodIn wsX7_drive (va_wsS RX7 58 yX4_isFit wsX4_isFit) := goodIn_app (goodIn_of _ (by decide +kernel)) ggX7_drive_X4_isFit
set_option maxRecDepth 20000 in
theorem ggX7_drive_X7_newDrive : GoodIn wsX7_drive wsX7_newDrive := goodIn_r _ [20, 21, 22, 23, 24, 25, 26, 27, 28, 29, 30, 31, 32, 33, 34, 35, 36, 37, 38, 39, 40, 41, 42, 43, 44, 45, 46, 47, 48, 49, 50, 51, 62, 63, 64, 65, 66, 67, 68, 69, 70, 71, 72] (by decide +kernel) (by decide +kernel)
set_option maxRecDepth 20000 in
theorem gX7_drive_X7_newDrive : GoodIn wsX7_drive (va_wsS RX7 96 yX7_newDrive wsX7_newDrive) := goodIn_app (goodIn_of _ (by decide +kernel)) ggX7_drive_X7_newDrive
theorem dX7_drive_0 : decode cX7_drive 0 = .ok (.iload_n 1, 1) := by decide +kernel
theorem dX7_drive_1 : decode cX7_drive 1 = .ok (.ifCond .lt 16, 3) := by decide +kernel
theorem dX7_drive_4 : decode cX7_drive 4 = .ok (.iload_n 1, 1) := by decide +kernel
theorem dX7_drive_5 : decode cX7_drive 5 = .ok (.iconst 2, 1) := by decide +kernel
theorem dX7_drive_6 : decode cX7_drive 6 = .ok (.if_icmp .gt 11, 3) := by decide +kernel
theorem dX7_drive_9 : decode cX7_drive 9 = .ok (.iconst 1, 1) := by decide +kernel
theorem dX7_drive_10 : decode cX7_drive 10 = .ok (.lload_n 2, 1) := by decide +kernel
theorem dX7_drive_11 : decode cX7_drive 11 = .ok (.invokestatic 58, 3) := by decide +kernel
theorem dX7_drive_14 : decode cX7_drive 14 = .ok (.ifCond .ne 6, 3) := by decide +kernel
theorem dX7_drive_17 : decode cX7_drive 17 = .ok (.bipush (-102), 2) := by decide +kernel
theorem dX7_drive_19 : decode cX7_drive 19 = .ok (.ireturn, 1) := by decide +kernel
theorem dX7_drive_20 : decode cX7_drive 20 = .ok (.aload_n 0, 1) := by decide +kernel
theorem dX7_drive_21 : decode cX7_drive 21 = .ok (.getfield 25, 3) := by decide +kernel
theorem dX7_drive_24 : decode cX7_drive 24 = .ok (.bipush 20, 2) := by decide +kernel
theorem dX7_drive_26 : decode cX7_drive 26 = .ok (.if_icmp .lt 6, 3) := by decide +kernel
theorem dX7_drive_29 : decode cX7_drive 29 = .ok (.bipush (-103), 2) := by decide +kernel
theorem dX7_drive_31 : decode cX7_drive 31 = .ok (.ireturn, 1) := by decide +kernel
theorem dX7_drive_32 : decode cX7_drive 32 = .ok (.aload_n 0, 1) := by decide +kernel
theorem dX7_drive_33 : decode cX7_drive 33 = .ok (.getfield 21, 3) := by decide +kernel
theorem dX7_drive_36 : decode cX7_drive 36 = .ok (.aload_n 0, 1) := by decide +kernel
theorem dX7_drive_37 : decode cX7_drive 37 = .ok (.getfield 25, 3) := by decide +kernel
theorem dX7_drive_40 : decode cX7_drive 40 = .ok (.iload_n 1, 1) := by decide +kernel
theorem dX7_drive_41 : decode cX7_drive 41 = .ok (.aload_n 0, 1) := by decide +kernel
theorem dX7_drive_42 : decode cX7_drive 42 = .ok (.getfield 25, 3) := by decide +kernel
theorem dX7_drive_45 : decode cX7_drive 45 = .ok (.lload_n 2, 1) := by decide +kernel
theorem dX7_drive_46 : decode cX7_drive 46 = .ok (.invokestatic 96, 3) := by decide +kernel
theorem dX7_drive_49 : decode cX7_drive 49 = .ok (.aastore, 1) := by decide +kernel
theorem dX7_drive_50 : decode cX7_drive 50 = .ok (.aload_n 0, 1) := by decide +kernel
theorem dX7_drive_51 : decode cX7_drive 51 = .ok (.dup, 1) := by decide +kernel
theorem dX7_drive_52 : decode cX7_drive 52 = .ok (.getfield 25, 3) := by decide +kernel
theorem dX7_drive_55 : decode cX7_drive 55 = .ok (.dup_x1, 1) := by decide +kernel
theorem dX7_drive_56 : decode cX7_drive 56 = .ok (.iconst 1, 1) := by decide +kernel
theorem dX7_drive_57 : decode cX7_drive 57 = .ok (.iadd, 1) := by decide +kernel
theorem dX7_drive_58 : decode cX7_drive 58 = .ok (.putfield 25, 3) := by decide +kernel
theorem dX7_drive_61 : decode cX7_drive 61 = .ok (.ireturn, 1) := by decide +kernel
set_option maxRecDepth 20000 in
theorem ggX7_fit_X7_driveAt : GoodIn wsX7_fit wsX7_driveAt := goodIn_r _ [6, 7, 8, 12, 13, 14, 15, 16, 17, 18, 19, 20, 21] (by decide +kernel) (by decide +kernel)
set_option maxRecDepth 20000 in
theorem gX7_fit_X7_driveAt : GoodIn wsX7_fit (wsV RX7 100 RX7 yX7_driveAt wsX7_driveAt) := goodIn_app (goodIn_of _ (by decide +kernel)) ggX7_fit_X7_driveAt
set_option maxRecDepth 20000 in
theorem ggX7_fit_X7_isSlot : GoodIn wsX7_fit wsX7_isSlot := goodIn_r _ [11] (by decide +kernel) (by decide +kernel)
set_option maxRecDepth 20000 in
theorem gX7_fit_X7_isSlot : GoodIn wsX7_fit (va_wsS RX7 104 yX7_isSlot wsX7_isSlot) := goodIn_app (goodIn_of _ (by decide +kernel)) ggX7_fit_X7_isSlot
theorem dX7_fit_0 : decode cX7_fit 0 = .ok (.aload_n 0, 1) := by decide +kernel
theorem dX7_fit_1 : decode cX7_fit 1 = .ok (.iload_n 2, 1) := by decide +kernel
theorem dX7_fit_2 : decode cX7_fit 2 = .ok (.invokevirtual 100, 3) := by decide +kernel
theorem dX7_fit_5 : decode cX7_fit 5 = .ok (.astore_n 3, 1) := by decide +kernel
theorem dX7_fit_6 : decode cX7_fit 6 = .ok (.iload_n 1, 1) := by decide +kernel
theorem dX7_fit_7 : decode cX7_fit 7 = .ok (.invokestatic 104, 3) := by decide +kernel
theorem dX7_fit_10 : decode cX7_fit 10 = .ok (.ifCond .eq 12, 3) := by decide +kernel
theorem dX7_fit_13 : decode cX7_fit 13 = .ok (.aload_n 3, 1) := by decide +kernel
theorem dX7_fit_14 : decode cX7_fit 14 = .ok (.ifnonnull 11, 3) := by decide +kernel
theorem dX7_fit_17 : decode cX7_fit 17 = .ok (.iload_n 2, 1) := by decide +kernel
theorem dX7_fit_18 : decode cX7_fit 18 = .ok (.iconst (-1), 1) := by decide +kernel
theorem dX7_fit_19 : decode cX7_fit 19 = .ok (.if_icmp .eq 6, 3) := by decide +kernel
theorem dX7_fit_22 : decode cX7_fit 22 = .ok (.bipush (-101), 2) := by decide +kernel
theorem dX7_fit_24 : decode cX7_fit 24 = .ok (.ireturn, 1) := by decide +kernel
theorem dX7_fit_25 : decode cX7_fit 25 = .ok (.aload_n 0, 1) := by decide +kernel
theorem dX7_fit_26 : decode cX7_fit 26 = .ok (.getfield 28, 3) := by decide +kernel
theorem dX7_fit_29 : decode cX7_fit 29 = .ok (.iload_n 1, 1) := by decide +kernel
theorem dX7_fit_30 : decode cX7_fit 30 = .ok (.aload_n 3, 1) := by decide +kernel
theorem dX7_fit_31 : decode cX7_fit 31 = .ok (.aastore, 1) := by decide +kernel
theorem dX7_fit_32 : decode cX7_fit 32 = .ok (.iconst 1, 1) := by decide +kernel
theorem dX7_fit_33 : decode cX7_fit 33 = .ok (.ireturn, 1) := by decide +kernel
set_option maxRecDepth 20000 in
theorem ggX7_pull_X7_dialAt : GoodIn wsX7_pull wsX7_dialAt := goodIn_r _ [6, 7, 8, 159, 160, 161, 162, 163, 164, 165, 166, 167, 168] (by decide +kernel) (by decide +kernel)
set_option maxRecDepth 20000 in
theorem gX7_pull_X7_dialAt : GoodIn wsX7_pull (wsV RX7 68 RX7 yX7_dialAt wsX7_dialAt) := goodIn_app (goodIn_of _ (by decide +kernel)) ggX7_pull_X7_dialAt
set_option maxRecDepth 20000 in
theorem ggX7_pull_X7_isSlot : GoodIn wsX7_pull wsX7_isSlot := goodIn_r _ [11] (by decide +kernel) (by decide +kernel)
set_option maxRecDepth 20000 in
theorem gX7_pull_X7_isSlot : GoodIn wsX7_pull (va_wsS RX7 104 yX7_isSlot wsX7_isSlot) := goodIn_app (goodIn_of _ (by decide +kernel)) ggX7_pull_X7_isSlot
set_option maxRecDepth 20000 in
theorem ggX7_pull_X7_failWith : GoodIn wsX7_pull wsX7_failWith := goodIn_r _ [15, 16, 17, 159, 160, 161, 162, 163, 164, 165, 166, 167, 168] (by decide +kernel) (by decide +kernel)
set_option maxRecDepth 20000 in
theorem gX7_pull_X7_failWith : GoodIn wsX7_pull (wsV RX7 84 RX7 yX7_failWith wsX7_failWith) := goodIn_app (goodIn_of _ (by decide +kernel)) ggX7_pull_X7_failWith
set_option maxRecDepth 20000 in
theorem ggX7_pull_X2_pullAt : GoodIn wsX7_pull wsX2_pullAt := goodIn_r _ [23, 24, 25, 26, 27, 28, 29, 30, 31, 32, 33, 34, 35, 36, 37, 38, 39, 40, 41, 42, 43, 44, 45, 46, 47, 48, 49, 50, 51, 52, 53, 54, 55, 56, 57, 58, 59, 60, 61, 62, 63, 64, 65, 66, 67, 68, 69, 70, 71, 72, 73, 74, 75, 76, 77, 78, 79, 80, 81, 82, 83, 84, 85, 86, 87, 88, 89, 90, 91, 92, 93, 94, 95, 96, 97, 98, 99, 100, 101, 102, 103, 104, 105, 106, 107, 108, 109, 110, 111, 112, 113, 114, 115, 116, 117, 118, 119, 120, 121, 122, 123, 124, 125, 126, 127, 128, 129, 130, 131, 132, 133, 134, 135, 136, 137, 138, 139, 140, 141, 142, 143, 144, 145, 146, 147, 148, 149, 150, 151, 152, 169, 170, 171, 172, 173, 174, 175, 176, 177, 178, 179, 180, 181, 182, 183] (by decide +kernel) (by decide +kernel)
set_option maxRecDepth 20000 in
theorem gX7_pull_X2_pullAt_u108X0 : GoodIn wsX7_pull (va_wsU RX7 108 RX0 "OrreryDials$Drive" ⟨"OrreryDials$Drive", "pullAt", "(LOrreryDials$Dial;)Z"⟩ yX2_pullAt wsX2_pullAt) := goodIn_app (goodIn_of _ (by decide +kernel)) ggX7_pull_X2_pullAt
set_option maxRecDepth 20000 in
theorem gX7_pull_X2_pullAt_u108X3 : GoodIn wsX7_pull (va_wsU RX7 108 RX3 "OrreryDials$Drive" ⟨"OrreryDials$Drive", "pullAt", "(LOrreryDials$Dial;)Z"⟩ yX2_pullAt wsX2_pullAt) := goodIn_app (goodIn_of _ (by decide +kernel)) ggX7_pull_X2_pullAt
set_option maxRecDepth 20000 in
theorem gX7_pull_X2_pullAt_u108X6 : GoodIn wsX7_pull (va_wsU RX7 108 RX6 "OrreryDials$Drive" ⟨"OrreryDials$Drive", "pullAt", "(LOrreryDials$Dial;)Z"⟩ yX2_pullAt wsX2_pullAt) := goodIn_app (goodIn_of _ (by decide +kernel)) ggX7_pull_X2_pullAt
set_option maxRecDepth 20000 in
theorem ggX7_pull_X7_done : GoodIn wsX7_pull wsX7_done := goodIn_r _ [158, 16, 159, 160, 161, 162, 163, 164, 165, 166, 167, 168] (by decide +kernel) (by decide +kernel)
set_option maxRecDepth 20000 in
theorem gX7_pull_X7_done : GoodIn wsX7_pull (wsV RX7 80 RX7 yX7_done wsX7_done) := goodIn_app (goodIn_of _ (by decide +kernel)) ggX7_pull_X7_done
theorem dX7_pull_0 : decode cX7_pull 0 = .ok (.aload_n 0, 1) := by decide +kernel
theorem dX7_pull_1 : decode cX7_pull 1 = .ok (.iload_n 2, 1) := by decide +kernel
theorem dX7_pull_2 : decode cX7_pull 2 = .ok (.invokevirtual 68, 3) := by decide +kernel
theorem dX7_pull_5 : decode cX7_pull 5 = .ok (.astore_n 3, 1) := by decide +kernel
theorem dX7_pull_6 : decode cX7_pull 6 = .ok (.iload_n 1, 1) := by decide +kernel
theorem dX7_pull_7 : decode cX7_pull 7 = .ok (.invokestatic 104, 3) := by decide +kernel
theorem dX7_pull_10 : decode cX7_pull 10 = .ok (.ifCond .eq 7, 3) := by decide +kernel
theorem dX7_pull_13 : decode cX7_pull 13 = .ok (.aload_n 3, 1) := by decide +kernel
theorem dX7_pull_14 : decode cX7_pull 14 = .ok (.ifnonnull 6, 3) := by decide +kernel
theorem dX7_pull_17 : decode cX7_pull 17 = .ok (.bipush (-101), 2) := by decide +kernel
theorem dX7_pull_19 : decode cX7_pull 19 = .ok (.ireturn, 1) := by decide +kernel
theorem dX7_pull_20 : decode cX7_pull 20 = .ok (.aload_n 0, 1) := by decide +kernel
theorem dX7_pull_21 : decode cX7_pull 21 = .ok (.getfield 28, 3) := by decide +kernel
theorem dX7_pull_24 : decode cX7_pull 24 = .ok (.iload_n 1, 1) := by decide +kernel
theorem dX7_pull_25 : decode cX7_pull 25 = .ok (.aaload, 1) := by decide +kernel
theorem dX7_pull_26 : decode cX7_pull 26 = .ok (.astore 4, 2) := by decide +kernel
theorem dX7_pull_28 : decode cX7_pull 28 = .ok (.aload 4, 2) := by decide +kernel
theorem dX7_pull_30 : decode cX7_pull 30 = .ok (.ifnonnull 10, 3) := by decide +kernel
theorem dX7_pull_33 : decode cX7_pull 33 = .ok (.aload_n 0, 1) := by decide +kernel
theorem dX7_pull_34 : decode cX7_pull 34 = .ok (.bipush (-11), 2) := by decide +kernel
theorem dX7_pull_36 : decode cX7_pull 36 = .ok (.invokevirtual 84, 3) := by decide +kernel
theorem dX7_pull_39 : decode cX7_pull 39 = .ok (.ireturn, 1) := by decide +kernel
theorem dX7_pull_40 : decode cX7_pull 40 = .ok (.aload 4, 2) := by decide +kernel
theorem dX7_pull_42 : decode cX7_pull 42 = .ok (.aload_n 3, 1) := by decide +kernel
theorem dX7_pull_43 : decode cX7_pull 43 = .ok (.invokevirtual 108, 3) := by decide +kernel
theorem dX7_pull_46 : decode cX7_pull 46 = .ok (.ifCond .eq 11, 3) := by decide +kernel
theorem dX7_pull_49 : decode cX7_pull 49 = .ok (.aload_n 0, 1) := by decide +kernel
theorem dX7_pull_50 : decode cX7_pull 50 = .ok (.iconst 1, 1) := by decide +kernel
theorem dX7_pull_51 : decode cX7_pull 51 = .ok (.invokevirtual 80, 3) := by decide +kernel
theorem dX7_pull_54 : decode cX7_pull 54 = .ok (.goto 9, 3) := by decide +kernel
theorem dX7_pull_57 : decode cX7_pull 57 = .ok (.aload_n 0, 1) := by decide +kernel
theorem dX7_pull_58 : decode cX7_pull 58 = .ok (.bipush (-15), 2) := by decide +kernel
theorem dX7_pull_60 : decode cX7_pull 60 = .ok (.invokevirtual 84, 3) := by decide +kernel
theorem dX7_pull_63 : decode cX7_pull 63 = .ok (.ireturn, 1) := by decide +kernel
set_option maxRecDepth 20000 in
theorem ggX7_gear_X7_isSlot : GoodIn wsX7_gear wsX7_isSlot := goodIn_r _ [7] (by decide +kernel) (by decide +kernel)
set_option maxRecDepth 20000 in
theorem gX7_gear_X7_isSlot : GoodIn wsX7_gear (va_wsS RX7 104 yX7_isSlot wsX7_isSlot) := goodIn_app (goodIn_of _ (by decide +kernel)) ggX7_gear_X7_isSlot
set_option maxRecDepth 20000 in
theorem ggX7_gear_X7_failWith : GoodIn wsX7_gear wsX7_failWith := goodIn_r _ [11, 12, 13, 18, 19, 20, 21, 22, 23, 24, 25, 26, 27] (by decide +kernel) (by decide +kernel)
set_option maxRecDepth 20000 in
theorem gX7_gear_X7_failWith : GoodIn wsX7_gear (wsV RX7 84 RX7 yX7_failWith wsX7_failWith) := goodIn_app (goodIn_of _ (by decide +kernel)) ggX7_gear_X7_failWith
set_option maxRecDepth 20000 in
theorem ggX7_gear_X7_done : GoodIn wsX7_gear wsX7_done := goodIn_r _ [17, 12, 18, 19, 20, 21, 22, 23, 24, 25, 26, 27] (by decide +kernel) (by decide +kernel)
set_option maxRecDepth 20000 in
theorem gX7_gear_X7_done : GoodIn wsX7_gear (wsV RX7 80 RX7 yX7_done wsX7_done) := goodIn_app (goodIn_of _ (by decide +kernel)) ggX7_gear_X7_done
theorem dX7_gear_0 : decode cX7_gear 0 = .ok (.iload_n 1, 1) := by decide +kernel
theorem dX7_gear_1 : decode cX7_gear 1 = .ok (.invokestatic 104, 3) := by decide +kernel
theorem dX7_gear_4 : decode cX7_gear 4 = .ok (.ifCond .ne 6, 3) := by decide +kernel
theorem dX7_gear_7 : decode cX7_gear 7 = .ok (.bipush (-101), 2) := by decide +kernel
theorem dX7_gear_9 : decode cX7_gear 9 = .ok (.ireturn, 1) := by decide +kernel
theorem dX7_gear_10 : decode cX7_gear 10 = .ok (.iload_n 2, 1) := by decide +kernel
theorem dX7_gear_11 : decode cX7_gear 11 = .ok (.sipush (-1000), 3) := by decide +kernel
theorem dX7_gear_14 : decode cX7_gear 14 = .ok (.if_icmp .lt 10, 3) := by decide +kernel
theorem dX7_gear_17 : decode cX7_gear 17 = .ok (.iload_n 2, 1) := by decide +kernel
theorem dX7_gear_18 : decode cX7_gear 18 = .ok (.sipush 1000, 3) := by decide +kernel
theorem dX7_gear_21 : decode cX7_gear 21 = .ok (.if_icmp .le 6, 3) := by decide +kernel
theorem dX7_gear_24 : decode cX7_gear 24 = .ok (.bipush (-102), 2) := by decide +kernel
theorem dX7_gear_26 : decode cX7_gear 26 = .ok (.ireturn, 1) := by decide +kernel
theorem dX7_gear_27 : decode cX7_gear 27 = .ok (.aload_n 0, 1) := by decide +kernel
theorem dX7_gear_28 : decode cX7_gear 28 = .ok (.getfield 28, 3) := by decide +kernel
theorem dX7_gear_31 : decode cX7_gear 31 = .ok (.iload_n 1, 1) := by decide +kernel
theorem dX7_gear_32 : decode cX7_gear 32 = .ok (.aaload, 1) := by decide +kernel
theorem dX7_gear_33 : decode cX7_gear 33 = .ok (.astore_n 3, 1) := by decide +kernel
theorem dX7_gear_34 : decode cX7_gear 34 = .ok (.aload_n 3, 1) := by decide +kernel
theorem dX7_gear_35 : decode cX7_gear 35 = .ok (.ifnonnull 10, 3) := by decide +kernel
theorem dX7_gear_38 : decode cX7_gear 38 = .ok (.aload_n 0, 1) := by decide +kernel
theorem dX7_gear_39 : decode cX7_gear 39 = .ok (.bipush (-11), 2) := by decide +kernel
theorem dX7_gear_41 : decode cX7_gear 41 = .ok (.invokevirtual 84, 3) := by decide +kernel
theorem dX7_gear_44 : decode cX7_gear 44 = .ok (.ireturn, 1) := by decide +kernel
theorem dX7_gear_45 : decode cX7_gear 45 = .ok (.aload_n 3, 1) := by decide +kernel
theorem dX7_gear_46 : decode cX7_gear 46 = .ok (.instanceof 112, 3) := by decide +kernel
theorem dX7_gear_49 : decode cX7_gear 49 = .ok (.ifCond .eq 29, 3) := by decide +kernel
theorem dX7_gear_52 : decode cX7_gear 52 = .ok (.aload_n 3, 1) := by decide +kernel
theorem dX7_gear_53 : decode cX7_gear 53 = .ok (.checkcast 112, 3) := by decide +kernel
theorem dX7_gear_56 : decode cX7_gear 56 = .ok (.astore 4, 2) := by decide +kernel
theorem dX7_gear_58 : decode cX7_gear 58 = .ok (.aload 4, 2) := by decide +kernel
theorem dX7_gear_60 : decode cX7_gear 60 = .ok (.getfield 114, 3) := by decide +kernel
theorem dX7_gear_63 : decode cX7_gear 63 = .ok (.istore 5, 2) := by decide +kernel
theorem dX7_gear_65 : decode cX7_gear 65 = .ok (.aload 4, 2) := by decide +kernel
theorem dX7_gear_67 : decode cX7_gear 67 = .ok (.iload_n 2, 1) := by decide +kernel
theorem dX7_gear_68 : decode cX7_gear 68 = .ok (.putfield 114, 3) := by decide +kernel
theorem dX7_gear_71 : decode cX7_gear 71 = .ok (.aload_n 0, 1) := by decide +kernel
theorem dX7_gear_72 : decode cX7_gear 72 = .ok (.iload 5, 2) := by decide +kernel
theorem dX7_gear_74 : decode cX7_gear 74 = .ok (.invokevirtual 80, 3) := by decide +kernel
theorem dX7_gear_77 : decode cX7_gear 77 = .ok (.ireturn, 1) := by decide +kernel
theorem dX7_gear_78 : decode cX7_gear 78 = .ok (.aload_n 0, 1) := by decide +kernel
theorem dX7_gear_79 : decode cX7_gear 79 = .ok (.bipush (-13), 2) := by decide +kernel
theorem dX7_gear_81 : decode cX7_gear 81 = .ok (.invokevirtual 84, 3) := by decide +kernel
theorem dX7_gear_84 : decode cX7_gear 84 = .ok (.ireturn, 1) := by decide +kernel
set_option maxRecDepth 20000 in
theorem ggX7_lay_X7_isShaft : GoodIn wsX7_lay wsX7_isShaft := goodIn_r _ [7] (by decide +kernel) (by decide +kernel)
set_option maxRecDepth 20000 in
theorem gX7_lay_X7_isShaft : GoodIn wsX7_lay (va_wsS RX7 117 yX7_isShaft wsX7_isShaft) := goodIn_app (goodIn_of _ (by decide +kernel)) ggX7_lay_X7_isShaft
set_option maxRecDepth 20000 in
theorem ggX7_lay_X7_isSlot : GoodIn wsX7_lay wsX7_isSlot := goodIn_r _ [10] (by decide +kernel) (by decide +kernel)
set_option maxRecDepth 20000 in
theorem gX7_lay_X7_isSlot : GoodIn wsX7_lay (va_wsS RX7 104 yX7_isSlot wsX7_isSlot) := goodIn_app (goodIn_of _ (by decide +kernel)) ggX7_lay_X7_isSlot
set_option maxRecDepth 20000 in
theorem ggX7_lay_X7_isShaftPlace : GoodIn wsX7_lay wsX7_isShaftPlace := goodIn_r _ [13] (by decide +kernel) (by decide +kernel)
set_option maxRecDepth 20000 in
theorem gX7_lay_X7_isShaftPlace : GoodIn wsX7_lay (va_wsS RX7 120 yX7_isShaftPlace wsX7_isShaftPlace) := goodIn_app (goodIn_of _ (by decide +kernel)) ggX7_lay_X7_isShaftPlace
set_option maxRecDepth 20000 in
theorem ggX7_lay_X7_failWith : GoodIn wsX7_lay wsX7_failWith := goodIn_r _ [17, 18, 19, 24, 25, 26, 27, 28, 29, 30, 31, 32, 33] (by decide +kernel) (by decide +kernel)
set_option maxRecDepth 20000 in
theorem gX7_lay_X7_failWith : GoodIn wsX7_lay (wsV RX7 84 RX7 yX7_failWith wsX7_failWith) := goodIn_app (goodIn_of _ (by decide +kernel)) ggX7_lay_X7_failWith
set_option maxRecDepth 20000 in
theorem ggX7_lay_X7_done : GoodIn wsX7_lay wsX7_done := goodIn_r _ [23, 18, 24, 25, 26, 27, 28, 29, 30, 31, 32, 33] (by decide +kernel) (by decide +kernel)
set_option maxRecDepth 20000 in
theorem gX7_lay_X7_done : GoodIn wsX7_lay (wsV RX7 80 RX7 yX7_done wsX7_done) := goodIn_app (goodIn_of _ (by decide +kernel)) ggX7_lay_X7_done
theorem dX7_lay_0 : decode cX7_lay 0 = .ok (.iload_n 1, 1) := by decide +kernel
theorem dX7_lay_1 : decode cX7_lay 1 = .ok (.invokestatic 117, 3) := by decide +kernel
theorem dX7_lay_4 : decode cX7_lay 4 = .ok (.ifCond .eq 10, 3) := by decide +kernel
theorem dX7_lay_7 : decode cX7_lay 7 = .ok (.iload_n 3, 1) := by decide +kernel
theorem dX7_lay_8 : decode cX7_lay 8 = .ok (.invokestatic 104, 3) := by decide +kernel
theorem dX7_lay_11 : decode cX7_lay 11 = .ok (.ifCond .ne 6, 3) := by decide +kernel
theorem dX7_lay_14 : decode cX7_lay 14 = .ok (.bipush (-101), 2) := by decide +kernel
theorem dX7_lay_16 : decode cX7_lay 16 = .ok (.ireturn, 1) := by decide +kernel
theorem dX7_lay_17 : decode cX7_lay 17 = .ok (.iload_n 2, 1) := by decide +kernel
theorem dX7_lay_18 : decode cX7_lay 18 = .ok (.invokestatic 120, 3) := by decide +kernel
theorem dX7_lay_21 : decode cX7_lay 21 = .ok (.ifCond .ne 10, 3) := by decide +kernel
theorem dX7_lay_24 : decode cX7_lay 24 = .ok (.aload_n 0, 1) := by decide +kernel
theorem dX7_lay_25 : decode cX7_lay 25 = .ok (.bipush (-12), 2) := by decide +kernel
theorem dX7_lay_27 : decode cX7_lay 27 = .ok (.invokevirtual 84, 3) := by decide +kernel
theorem dX7_lay_30 : decode cX7_lay 30 = .ok (.ireturn, 1) := by decide +kernel
theorem dX7_lay_31 : decode cX7_lay 31 = .ok (.aload_n 0, 1) := by decide +kernel
theorem dX7_lay_32 : decode cX7_lay 32 = .ok (.getfield 28, 3) := by decide +kernel
theorem dX7_lay_35 : decode cX7_lay 35 = .ok (.iload_n 3, 1) := by decide +kernel
theorem dX7_lay_36 : decode cX7_lay 36 = .ok (.aaload, 1) := by decide +kernel
theorem dX7_lay_37 : decode cX7_lay 37 = .ok (.astore 4, 2) := by decide +kernel
theorem dX7_lay_39 : decode cX7_lay 39 = .ok (.iload_n 1, 1) := by decide +kernel
theorem dX7_lay_40 : decode cX7_lay 40 = .ok (.iconst 1, 1) := by decide +kernel
theorem dX7_lay_41 : decode cX7_lay 41 = .ok (.if_icmp .ne 23, 3) := by decide +kernel
theorem dX7_lay_44 : decode cX7_lay 44 = .ok (.aload 4, 2) := by decide +kernel
theorem dX7_lay_46 : decode cX7_lay 46 = .ok (.ifnull 18, 3) := by decide +kernel
theorem dX7_lay_49 : decode cX7_lay 49 = .ok (.aload 4, 2) := by decide +kernel
theorem dX7_lay_51 : decode cX7_lay 51 = .ok (.instanceof 112, 3) := by decide +kernel
theorem dX7_lay_54 : decode cX7_lay 54 = .ok (.ifCond .ne 10, 3) := by decide +kernel
theorem dX7_lay_57 : decode cX7_lay 57 = .ok (.aload_n 0, 1) := by decide +kernel
theorem dX7_lay_58 : decode cX7_lay 58 = .ok (.bipush (-14), 2) := by decide +kernel
theorem dX7_lay_60 : decode cX7_lay 60 = .ok (.invokevirtual 84, 3) := by decide +kernel
theorem dX7_lay_63 : decode cX7_lay 63 = .ok (.ireturn, 1) := by decide +kernel
theorem dX7_lay_64 : decode cX7_lay 64 = .ok (.aload_n 0, 1) := by decide +kernel
theorem dX7_lay_65 : decode cX7_lay 65 = .ok (.getfield 31, 3) := by decide +kernel
theorem dX7_lay_68 : decode cX7_lay 68 = .ok (.iload_n 1, 1) := by decide +kernel
theorem dX7_lay_69 : decode cX7_lay 69 = .ok (.iconst 4, 1) := by decide +kernel
theorem dX7_lay_70 : decode cX7_lay 70 = .ok (.imul, 1) := by decide +kernel
theorem dX7_lay_71 : decode cX7_lay 71 = .ok (.iload_n 2, 1) := by decide +kernel
theorem dX7_lay_72 : decode cX7_lay 72 = .ok (.iadd, 1) := by decide +kernel
theorem dX7_lay_73 : decode cX7_lay 73 = .ok (.aload 4, 2) := by decide +kernel
theorem dX7_lay_75 : decode cX7_lay 75 = .ok (.aastore, 1) := by decide +kernel
theorem dX7_lay_76 : decode cX7_lay 76 = .ok (.aload_n 0, 1) := by decide +kernel
theorem dX7_lay_77 : decode cX7_lay 77 = .ok (.iconst 1, 1) := by decide +kernel
theorem dX7_lay_78 : decode cX7_lay 78 = .ok (.invokevirtual 80, 3) := by decide +kernel
theorem dX7_lay_81 : decode cX7_lay 81 = .ok (.ireturn, 1) := by decide +kernel
set_option maxRecDepth 20000 in
theorem ggX7_wind_X7_dialAt : GoodIn wsX7_wind wsX7_dialAt := goodIn_r _ [6, 7, 8, 159, 160, 161, 162, 163, 164, 165, 166, 167, 168] (by decide +kernel) (by decide +kernel)
set_option maxRecDepth 20000 in
theorem gX7_wind_X7_dialAt : GoodIn wsX7_wind (wsV RX7 68 RX7 yX7_dialAt wsX7_dialAt) := goodIn_app (goodIn_of _ (by decide +kernel)) ggX7_wind_X7_dialAt
set_option maxRecDepth 20000 in
theorem ggX7_wind_X7_isShaft : GoodIn wsX7_wind wsX7_isShaft := goodIn_r _ [11] (by decide +kernel) (by decide +kernel)
set_option maxRecDepth 20000 in
theorem gX7_wind_X7_isShaft : GoodIn wsX7_wind (va_wsS RX7 117 yX7_isShaft wsX7_isShaft) := goodIn_app (goodIn_of _ (by decide +kernel)) ggX7_wind_X7_isShaft
set_option maxRecDepth 20000 in
theorem ggX7_wind_X7_failWith : GoodIn wsX7_wind wsX7_failWith := goodIn_r _ [15, 16, 17, 159, 160, 161, 162, 163, 164, 165, 166, 167, 168] (by decide +kernel) (by decide +kernel)
set_option maxRecDepth 20000 in
theorem gX7_wind_X7_failWith : GoodIn wsX7_wind (wsV RX7 84 RX7 yX7_failWith wsX7_failWith) := goodIn_app (goodIn_of _ (by decide +kernel)) ggX7_wind_X7_failWith
set_option maxRecDepth 20000 in
theorem ggX7_wind_X2_pullAt : GoodIn wsX7_wind wsX2_pullAt := goodIn_r _ [23, 24, 25, 26, 27, 28, 29, 30, 31, 32, 33, 34, 35, 36, 37, 38, 39, 40, 41, 42, 43, 44, 45, 46, 47, 48, 49, 50, 51, 52, 53, 54, 55, 56, 57, 58, 59, 60, 61, 62, 63, 64, 65, 66, 67, 68, 69, 70, 71, 72, 73, 74, 75, 76, 77, 78, 79, 80, 81, 82, 83, 84, 85, 86, 87, 88, 89, 90, 91, 92, 93, 94, 95, 96, 97, 98, 99, 100, 101, 102, 103, 104, 105, 106, 107, 108, 109, 110, 111, 112, 113, 114, 115, 116, 117, 118, 119, 120, 121, 122, 123, 124, 125, 126, 127, 128, 129, 130, 131, 132, 133, 134, 135, 136, 137, 138, 139, 140, 141, 142, 143, 144, 145, 146, 147, 148, 149, 150, 151, 152, 169, 170, 171, 172, 173, 174, 175, 176, 177, 178, 179, 180, 181, 182, 183] (by decide +kernel) (by decide +kernel)
set_option maxRecDepth 20000 in
theorem gX7_wind_X2_pullAt_u108X0 : GoodIn wsX7_wind (va_wsU RX7 108 RX0 "OrreryDials$Drive" ⟨"OrreryDials$Drive", "pullAt", "(LOrreryDials$Dial;)Z"⟩ yX2_pullAt wsX2_pullAt) := goodIn_app (goodIn_of _ (by decide +kernel)) ggX7_wind_X2_pullAt
set_option maxRecDepth 20000 in
theorem gX7_wind_X2_pullAt_u108X3 : GoodIn wsX7_wind (va_wsU RX7 108 RX3 "OrreryDials$Drive" ⟨"OrreryDials$Drive", "pullAt", "(LOrreryDials$Dial;)Z"⟩ yX2_pullAt wsX2_pullAt) := goodIn_app (goodIn_of _ (by decide +kernel)) ggX7_wind_X2_pullAt
set_option maxRecDepth 20000 in
theorem gX7_wind_X2_pullAt_u108X6 : GoodIn wsX7_wind (va_wsU RX7 108 RX6 "OrreryDials$Drive" ⟨"OrreryDials$Drive", "pullAt", "(LOrreryDials$Dial;)Z"⟩ yX2_pullAt wsX2_pullAt) := goodIn_app (goodIn_of _ (by decide +kernel)) ggX7_wind_X2_pullAt
set_option maxRecDepth 20000 in
theorem ggX7_wind_X7_done : GoodIn wsX7_wind wsX7_done := goodIn_r _ [158, 16, 159, 160, 161, 162, 163, 164, 165, 166, 167, 168] (by decide +kernel) (by decide +kernel)
set_option maxRecDepth 20000 in
theorem gX7_wind_X7_done : GoodIn wsX7_wind (wsV RX7 80 RX7 yX7_done wsX7_done) := goodIn_app (goodIn_of _ (by decide +kernel)) ggX7_wind_X7_done
theorem dX7_wind_0 : decode cX7_wind 0 = .ok (.aload_n 0, 1) := by decide +kernel
theorem dX7_wind_1 : decode cX7_wind 1 = .ok (.iload_n 2, 1) := by decide +kernel
theorem dX7_wind_2 : decode cX7_wind 2 = .ok (.invokevirtual 68, 3) := by decide +kernel
theorem dX7_wind_5 : decode cX7_wind 5 = .ok (.astore_n 3, 1) := by decide +kernel
theorem dX7_wind_6 : decode cX7_wind 6 = .ok (.iload_n 1, 1) := by decide +kernel
theorem dX7_wind_7 : decode cX7_wind 7 = .ok (.invokestatic 117, 3) := by decide +kernel
theorem dX7_wind_10 : decode cX7_wind 10 = .ok (.ifCond .eq 7, 3) := by decide +kernel
theorem dX7_wind_13 : decode cX7_wind 13 = .ok (.aload_n 3, 1) := by decide +kernel
theorem dX7_wind_14 : decode cX7_wind 14 = .ok (.ifnonnull 6, 3) := by decide +kernel
theorem dX7_wind_17 : decode cX7_wind 17 = .ok (.bipush (-101), 2) := by decide +kernel
theorem dX7_wind_19 : decode cX7_wind 19 = .ok (.ireturn, 1) := by decide +kernel
theorem dX7_wind_20 : decode cX7_wind 20 = .ok (.iconst 0, 1) := by decide +kernel
theorem dX7_wind_21 : decode cX7_wind 21 = .ok (.istore 4, 2) := by decide +kernel
theorem dX7_wind_23 : decode cX7_wind 23 = .ok (.iload 4, 2) := by decide +kernel
theorem dX7_wind_25 : decode cX7_wind 25 = .ok (.iconst 4, 1) := by decide +kernel
theorem dX7_wind_26 : decode cX7_wind 26 = .ok (.if_icmp .ge 56, 3) := by decide +kernel
theorem dX7_wind_29 : decode cX7_wind 29 = .ok (.aload_n 0, 1) := by decide +kernel
theorem dX7_wind_30 : decode cX7_wind 30 = .ok (.getfield 31, 3) := by decide +kernel
theorem dX7_wind_33 : decode cX7_wind 33 = .ok (.iload_n 1, 1) := by decide +kernel
theorem dX7_wind_34 : decode cX7_wind 34 = .ok (.iconst 4, 1) := by decide +kernel
theorem dX7_wind_35 : decode cX7_wind 35 = .ok (.imul, 1) := by decide +kernel
theorem dX7_wind_36 : decode cX7_wind 36 = .ok (.iload 4, 2) := by decide +kernel
theorem dX7_wind_38 : decode cX7_wind 38 = .ok (.iadd, 1) := by decide +kernel
theorem dX7_wind_39 : decode cX7_wind 39 = .ok (.aaload, 1) := by decide +kernel
theorem dX7_wind_40 : decode cX7_wind 40 = .ok (.astore 5, 2) := by decide +kernel
theorem dX7_wind_42 : decode cX7_wind 42 = .ok (.aload 5, 2) := by decide +kernel
theorem dX7_wind_44 : decode cX7_wind 44 = .ok (.ifnonnull 13, 3) := by decide +kernel
theorem dX7_wind_47 : decode cX7_wind 47 = .ok (.aload_n 0, 1) := by decide +kernel
theorem dX7_wind_48 : decode cX7_wind 48 = .ok (.bipush (-11), 2) := by decide +kernel
theorem dX7_wind_50 : decode cX7_wind 50 = .ok (.invokevirtual 84, 3) := by decide +kernel
theorem dX7_wind_53 : decode cX7_wind 53 = .ok (.pop, 1) := by decide +kernel
theorem dX7_wind_54 : decode cX7_wind 54 = .ok (.iload 4, 2) := by decide +kernel
theorem dX7_wind_56 : decode cX7_wind 56 = .ok (.ireturn, 1) := by decide +kernel
theorem dX7_wind_57 : decode cX7_wind 57 = .ok (.aload 5, 2) := by decide +kernel
theorem dX7_wind_59 : decode cX7_wind 59 = .ok (.aload_n 3, 1) := by decide +kernel
theorem dX7_wind_60 : decode cX7_wind 60 = .ok (.invokevirtual 108, 3) := by decide +kernel
theorem dX7_wind_63 : decode cX7_wind 63 = .ok (.ifCond .ne 13, 3) := by decide +kernel
theorem dX7_wind_66 : decode cX7_wind 66 = .ok (.aload_n 0, 1) := by decide +kernel
theorem dX7_wind_67 : decode cX7_wind 67 = .ok (.bipush (-15), 2) := by decide +kernel
theorem dX7_wind_69 : decode cX7_wind 69 = .ok (.invokevirtual 84, 3) := by decide +kernel
theorem dX7_wind_72 : decode cX7_wind 72 = .ok (.pop, 1) := by decide +kernel
theorem dX7_wind_73 : decode cX7_wind 73 = .ok (.iload 4, 2) := by decide +kernel
theorem dX7_wind_75 : decode cX7_wind 75 = .ok (.ireturn, 1) := by decide +kernel
theorem dX7_wind_76 : decode cX7_wind 76 = .ok (.iinc 4 1, 3) := by decide +kernel
theorem dX7_wind_79 : decode cX7_wind 79 = .ok (.goto (-56), 3) := by decide +kernel
theorem dX7_wind_82 : decode cX7_wind 82 = .ok (.aload_n 0, 1) := by decide +kernel
theorem dX7_wind_83 : decode cX7_wind 83 = .ok (.iconst 4, 1) := by decide +kernel
theorem dX7_wind_84 : decode cX7_wind 84 = .ok (.invokevirtual 80, 3) := by decide +kernel
theorem dX7_wind_87 : decode cX7_wind 87 = .ok (.ireturn, 1) := by decide +kernel
set_option maxRecDepth 20000 in
theorem ggX7_laid_X7_isShaft : GoodIn wsX7_laid wsX7_isShaft := goodIn_r _ [6] (by decide +kernel) (by decide +kernel)
set_option maxRecDepth 20000 in
theorem gX7_laid_X7_isShaft : GoodIn wsX7_laid (va_wsS RX7 117 yX7_isShaft wsX7_isShaft) := goodIn_app (goodIn_of _ (by decide +kernel)) ggX7_laid_X7_isShaft
set_option maxRecDepth 20000 in
theorem ggX7_laid_X7_isShaftPlace : GoodIn wsX7_laid wsX7_isShaftPlace := goodIn_r _ [9] (by decide +kernel) (by decide +kernel)
set_option maxRecDepth 20000 in
theorem gX7_laid_X7_isShaftPlace : GoodIn wsX7_laid (va_wsS RX7 120 yX7_isShaftPlace wsX7_isShaftPlace) := goodIn_app (goodIn_of _ (by decide +kernel)) ggX7_laid_X7_isShaftPlace
set_option maxRecDepth 20000 in
theorem ggX7_laid_X7_failWith : GoodIn wsX7_laid wsX7_failWith := goodIn_r _ [13, 14, 15, 20, 21, 22, 23, 24, 25, 26, 27, 28, 29] (by decide +kernel) (by decide +kernel)
set_option maxRecDepth 20000 in
theorem gX7_laid_X7_failWith : GoodIn wsX7_laid (wsV RX7 84 RX7 yX7_failWith wsX7_failWith) := goodIn_app (goodIn_of _ (by decide +kernel)) ggX7_laid_X7_failWith
set_option maxRecDepth 20000 in
theorem ggX7_laid_X7_done : GoodIn wsX7_laid wsX7_done := goodIn_r _ [19, 14, 20, 21, 22, 23, 24, 25, 26, 27, 28, 29] (by decide +kernel) (by decide +kernel)
set_option maxRecDepth 20000 in
theorem gX7_laid_X7_done : GoodIn wsX7_laid (wsV RX7 80 RX7 yX7_done wsX7_done) := goodIn_app (goodIn_of _ (by decide +kernel)) ggX7_laid_X7_done
theorem dX7_laid_0 : decode cX7_laid 0 = .ok (.iload_n 1, 1) := by decide +kernel
theorem dX7_laid_1 : decode cX7_laid 1 = .ok (.invokestatic 117, 3) := by decide +kernel
theorem dX7_laid_4 : decode cX7_laid 4 = .ok (.ifCond .ne 6, 3) := by decide +kernel
theorem dX7_laid_7 : decode cX7_laid 7 = .ok (.bipush (-101), 2) := by decide +kernel
theorem dX7_laid_9 : decode cX7_laid 9 = .ok (.ireturn, 1) := by decide +kernel
theorem dX7_laid_10 : decode cX7_laid 10 = .ok (.iload_n 2, 1) := by decide +kernel
theorem dX7_laid_11 : decode cX7_laid 11 = .ok (.invokestatic 120, 3) := by decide +kernel
theorem dX7_laid_14 : decode cX7_laid 14 = .ok (.ifCond .ne 10, 3) := by decide +kernel
theorem dX7_laid_17 : decode cX7_laid 17 = .ok (.aload_n 0, 1) := by decide +kernel
theorem dX7_laid_18 : decode cX7_laid 18 = .ok (.bipush (-12), 2) := by decide +kernel
theorem dX7_laid_20 : decode cX7_laid 20 = .ok (.invokevirtual 84, 3) := by decide +kernel
theorem dX7_laid_23 : decode cX7_laid 23 = .ok (.ireturn, 1) := by decide +kernel
theorem dX7_laid_24 : decode cX7_laid 24 = .ok (.aload_n 0, 1) := by decide +kernel
theorem dX7_laid_25 : decode cX7_laid 25 = .ok (.getfield 31, 3) := by decide +kernel
theorem dX7_laid_28 : decode cX7_laid 28 = .ok (.iload_n 1, 1) := by decide +kernel
theorem dX7_laid_29 : decode cX7_laid 29 = .ok (.iconst 4, 1) := by decide +kernel
theorem dX7_laid_30 : decode cX7_laid 30 = .ok (.imul, 1) := by decide +kernel
theorem dX7_laid_31 : decode cX7_laid 31 = .ok (.iload_n 2, 1) := by decide +kernel
theorem dX7_laid_32 : decode cX7_laid 32 = .ok (.iadd, 1) := by decide +kernel
theorem dX7_laid_33 : decode cX7_laid 33 = .ok (.aaload, 1) := by decide +kernel
theorem dX7_laid_34 : decode cX7_laid 34 = .ok (.astore_n 3, 1) := by decide +kernel
theorem dX7_laid_35 : decode cX7_laid 35 = .ok (.aload_n 0, 1) := by decide +kernel
theorem dX7_laid_36 : decode cX7_laid 36 = .ok (.aload_n 3, 1) := by decide +kernel
theorem dX7_laid_37 : decode cX7_laid 37 = .ok (.ifnonnull 7, 3) := by decide +kernel
theorem dX7_laid_40 : decode cX7_laid 40 = .ok (.iconst (-1), 1) := by decide +kernel
theorem dX7_laid_41 : decode cX7_laid 41 = .ok (.goto 7, 3) := by decide +kernel
theorem dX7_laid_44 : decode cX7_laid 44 = .ok (.aload_n 3, 1) := by decide +kernel
theorem dX7_laid_45 : decode cX7_laid 45 = .ok (.getfield 123, 3) := by decide +kernel
theorem dX7_laid_48 : decode cX7_laid 48 = .ok (.invokevirtual 80, 3) := by decide +kernel
theorem dX7_laid_51 : decode cX7_laid 51 = .ok (.ireturn, 1) := by decide +kernel
set_option maxRecDepth 20000 in
theorem ggX7_pulls_X7_driveAt : GoodIn wsX7_pulls wsX7_driveAt := goodIn_r _ [6, 7, 8, 20, 21, 22, 23, 24, 25, 26, 27, 28, 29] (by decide +kernel) (by decide +kernel)
set_option maxRecDepth 20000 in
theorem gX7_pulls_X7_driveAt : GoodIn wsX7_pulls (wsV RX7 100 RX7 yX7_driveAt wsX7_driveAt) := goodIn_app (goodIn_of _ (by decide +kernel)) ggX7_pulls_X7_driveAt
theorem dX7_pulls_0 : decode cX7_pulls 0 = .ok (.aload_n 0, 1) := by decide +kernel
theorem dX7_pulls_1 : decode cX7_pulls 1 = .ok (.iload_n 1, 1) := by decide +kernel
theorem dX7_pulls_2 : decode cX7_pulls 2 = .ok (.invokevirtual 100, 3) := by decide +kernel
theorem dX7_pulls_5 : decode cX7_pulls 5 = .ok (.astore_n 2, 1) := by decide +kernel
theorem dX7_pulls_6 : decode cX7_pulls 6 = .ok (.aload_n 2, 1) := by decide +kernel
theorem dX7_pulls_7 : decode cX7_pulls 7 = .ok (.ifnonnull 8, 3) := by decide +kernel
theorem dX7_pulls_10 : decode cX7_pulls 10 = .ok (.bipush (-101), 2) := by decide +kernel
theorem dX7_pulls_12 : decode cX7_pulls 12 = .ok (.goto 7, 3) := by decide +kernel
theorem dX7_pulls_15 : decode cX7_pulls 15 = .ok (.aload_n 2, 1) := by decide +kernel
theorem dX7_pulls_16 : decode cX7_pulls 16 = .ok (.getfield 126, 3) := by decide +kernel
theorem dX7_pulls_19 : decode cX7_pulls 19 = .ok (.ireturn, 1) := by decide +kernel
set_option maxRecDepth 20000 in
theorem ggX7_log_X7_rowAt : GoodIn wsX7_log wsX7_rowAt := goodIn_r _ [5, 6, 14, 15, 16, 17, 18, 19, 20, 21, 22, 23] (by decide +kernel) (by decide +kernel)
set_option maxRecDepth 20000 in
theorem gX7_log_X7_rowAt : GoodIn wsX7_log (wsV RX7 129 RX7 yX7_rowAt wsX7_rowAt) := goodIn_app (goodIn_of _ (by decide +kernel)) ggX7_log_X7_rowAt
set_option maxRecDepth 20000 in
theorem ggX7_log_X5_renew : GoodIn wsX7_log wsX5_renew := goodIn_r _ [11, 12, 13, 24, 25] (by decide +kernel) (by decide +kernel)
set_option maxRecDepth 20000 in
theorem gX7_log_X5_renew : GoodIn wsX7_log (wsV RX7 133 RX5 yX5_renew wsX5_renew) := goodIn_app (goodIn_of _ (by decide +kernel)) ggX7_log_X5_renew
theorem dX7_log_0 : decode cX7_log 0 = .ok (.aload_n 0, 1) := by decide +kernel
theorem dX7_log_1 : decode cX7_log 1 = .ok (.iload_n 1, 1) := by decide +kernel
theorem dX7_log_2 : decode cX7_log 2 = .ok (.iload_n 2, 1) := by decide +kernel
theorem dX7_log_3 : decode cX7_log 3 = .ok (.invokevirtual 129, 3) := by decide +kernel
theorem dX7_log_6 : decode cX7_log 6 = .ok (.astore 4, 2) := by decide +kernel
theorem dX7_log_8 : decode cX7_log 8 = .ok (.aload 4, 2) := by decide +kernel
theorem dX7_log_10 : decode cX7_log 10 = .ok (.ifnonnull 6, 3) := by decide +kernel
theorem dX7_log_13 : decode cX7_log 13 = .ok (.bipush (-101), 2) := by decide +kernel
theorem dX7_log_15 : decode cX7_log 15 = .ok (.ireturn, 1) := by decide +kernel
theorem dX7_log_16 : decode cX7_log 16 = .ok (.iload_n 3, 1) := by decide +kernel
theorem dX7_log_17 : decode cX7_log 17 = .ok (.iconst (-1), 1) := by decide +kernel
theorem dX7_log_18 : decode cX7_log 18 = .ok (.if_icmp .lt 9, 3) := by decide +kernel
theorem dX7_log_21 : decode cX7_log 21 = .ok (.iload_n 3, 1) := by decide +kernel
theorem dX7_log_22 : decode cX7_log 22 = .ok (.bipush 16, 2) := by decide +kernel
theorem dX7_log_24 : decode cX7_log 24 = .ok (.if_icmp .le 6, 3) := by decide +kernel
theorem dX7_log_27 : decode cX7_log 27 = .ok (.bipush (-102), 2) := by decide +kernel
theorem dX7_log_29 : decode cX7_log 29 = .ok (.ireturn, 1) := by decide +kernel
theorem dX7_log_30 : decode cX7_log 30 = .ok (.aload 4, 2) := by decide +kernel
theorem dX7_log_32 : decode cX7_log 32 = .ok (.iload_n 3, 1) := by decide +kernel
theorem dX7_log_33 : decode cX7_log 33 = .ok (.invokevirtual 133, 3) := by decide +kernel
theorem dX7_log_36 : decode cX7_log 36 = .ok (.iconst 1, 1) := by decide +kernel
theorem dX7_log_37 : decode cX7_log 37 = .ok (.ireturn, 1) := by decide +kernel
set_option maxRecDepth 20000 in
theorem ggX7_write_X7_rowAt : GoodIn wsX7_write wsX7_rowAt := goodIn_r _ [6, 7, 47, 48, 49, 50, 51, 52, 53, 54, 55, 56] (by decide +kernel) (by decide +kernel)
set_option maxRecDepth 20000 in
theorem gX7_write_X7_rowAt : GoodIn wsX7_write (wsV RX7 129 RX7 yX7_rowAt wsX7_rowAt) := goodIn_app (goodIn_of _ (by decide +kernel)) ggX7_write_X7_rowAt
set_option maxRecDepth 20000 in
theorem ggX7_write_X4_told : GoodIn wsX7_write wsX4_told := goodIn_r _ [11] (by decide +kernel) (by decide +kernel)
set_option maxRecDepth 20000 in
theorem gX7_write_X4_told : GoodIn wsX7_write (va_wsS RX7 52 yX4_told wsX4_told) := goodIn_app (goodIn_of _ (by decide +kernel)) ggX7_write_X4_told
set_option maxRecDepth 20000 in
theorem ggX7_write_X4_isFit : GoodIn wsX7_write wsX4_isFit := goodIn_r _ [14, 15, 16, 10, 17, 18, 19, 20, 21, 22, 23, 24] (by decide +kernel) (by decide +kernel)
set_option maxRecDepth 20000 in
theorem gX7_write_X4_isFit : GoodIn wsX7_write (va_wsS RX7 58 yX4_isFit wsX4_isFit) := goodIn_app (goodIn_of _ (by decide +kernel)) ggX7_write_X4_isFit
set_option maxRecDepth 20000 in
theorem ggX7_write_X5_failureAt : GoodIn wsX7_write wsX5_failureAt := goodIn_r _ [29, 30, 31, 32, 33, 28, 34, 45, 46] (by decide +kernel) (by decide +kernel)
set_option maxRecDepth 20000 in
theorem gX7_write_X5_failureAt : GoodIn wsX7_write (wsV RX7 137 RX5 yX5_failureAt wsX5_failureAt) := goodIn_app (goodIn_of _ (by decide +kernel)) ggX7_write_X5_failureAt
set_option maxRecDepth 20000 in
theorem ggX7_write_X7_failWith : GoodIn wsX7_write wsX7_failWith := goodIn_r _ [38, 39, 40, 47, 48, 49, 50, 51, 52, 53, 54, 55, 56] (by decide +kernel) (by decide +kernel)
set_option maxRecDepth 20000 in
theorem gX7_write_X7_failWith : GoodIn wsX7_write (wsV RX7 84 RX7 yX7_failWith wsX7_failWith) := goodIn_app (goodIn_of _ (by decide +kernel)) ggX7_write_X7_failWith
set_option maxRecDepth 20000 in
theorem ggX7_write_X7_done : GoodIn wsX7_write wsX7_done := goodIn_r _ [44, 39, 47, 48, 49, 50, 51, 52, 53, 54, 55, 56] (by decide +kernel) (by decide +kernel)
set_option maxRecDepth 20000 in
theorem gX7_write_X7_done : GoodIn wsX7_write (wsV RX7 80 RX7 yX7_done wsX7_done) := goodIn_app (goodIn_of _ (by decide +kernel)) ggX7_write_X7_done
theorem dX7_write_0 : decode cX7_write 0 = .ok (.aload_n 0, 1) := by decide +kernel
theorem dX7_write_1 : decode cX7_write 1 = .ok (.iload_n 1, 1) := by decide +kernel
theorem dX7_write_2 : decode cX7_write 2 = .ok (.iload_n 2, 1) := by decide +kernel
theorem dX7_write_3 : decode cX7_write 3 = .ok (.invokevirtual 129, 3) := by decide +kernel
theorem dX7_write_6 : decode cX7_write 6 = .ok (.astore 6, 2) := by decide +kernel
theorem dX7_write_8 : decode cX7_write 8 = .ok (.aload 6, 2) := by decide +kernel
theorem dX7_write_10 : decode cX7_write 10 = .ok (.ifnonnull 6, 3) := by decide +kernel
theorem dX7_write_13 : decode cX7_write 13 = .ok (.bipush (-101), 2) := by decide +kernel
theorem dX7_write_15 : decode cX7_write 15 = .ok (.ireturn, 1) := by decide +kernel
theorem dX7_write_16 : decode cX7_write 16 = .ok (.iload_n 2, 1) := by decide +kernel
theorem dX7_write_17 : decode cX7_write 17 = .ok (.lload 4, 2) := by decide +kernel
theorem dX7_write_19 : decode cX7_write 19 = .ok (.invokestatic 52, 3) := by decide +kernel
theorem dX7_write_22 : decode cX7_write 22 = .ok (.lstore 7, 2) := by decide +kernel
theorem dX7_write_24 : decode cX7_write 24 = .ok (.iload_n 2, 1) := by decide +kernel
theorem dX7_write_25 : decode cX7_write 25 = .ok (.lload 7, 2) := by decide +kernel
theorem dX7_write_27 : decode cX7_write 27 = .ok (.invokestatic 58, 3) := by decide +kernel
theorem dX7_write_30 : decode cX7_write 30 = .ok (.ifCond .ne 6, 3) := by decide +kernel
theorem dX7_write_33 : decode cX7_write 33 = .ok (.bipush (-102), 2) := by decide +kernel
theorem dX7_write_35 : decode cX7_write 35 = .ok (.ireturn, 1) := by decide +kernel
theorem dX7_write_36 : decode cX7_write 36 = .ok (.aload 6, 2) := by decide +kernel
theorem dX7_write_38 : decode cX7_write 38 = .ok (.iload_n 3, 1) := by decide +kernel
theorem dX7_write_39 : decode cX7_write 39 = .ok (.invokevirtual 137, 3) := by decide +kernel
theorem dX7_write_42 : decode cX7_write 42 = .ok (.istore 9, 2) := by decide +kernel
theorem dX7_write_44 : decode cX7_write 44 = .ok (.iload 9, 2) := by decide +kernel
theorem dX7_write_46 : decode cX7_write 46 = .ok (.ifCond .eq 10, 3) := by decide +kernel
theorem dX7_write_49 : decode cX7_write 49 = .ok (.aload_n 0, 1) := by decide +kernel
theorem dX7_write_50 : decode cX7_write 50 = .ok (.iload 9, 2) := by decide +kernel
theorem dX7_write_52 : decode cX7_write 52 = .ok (.invokevirtual 84, 3) := by decide +kernel
theorem dX7_write_55 : decode cX7_write 55 = .ok (.ireturn, 1) := by decide +kernel
theorem dX7_write_56 : decode cX7_write 56 = .ok (.aload 6, 2) := by decide +kernel
theorem dX7_write_58 : decode cX7_write 58 = .ok (.getfield 140, 3) := by decide +kernel
theorem dX7_write_61 : decode cX7_write 61 = .ok (.iload_n 3, 1) := by decide +kernel
theorem dX7_write_62 : decode cX7_write 62 = .ok (.lload 7, 2) := by decide +kernel
theorem dX7_write_64 : decode cX7_write 64 = .ok (.lastore, 1) := by decide +kernel
theorem dX7_write_65 : decode cX7_write 65 = .ok (.aload_n 0, 1) := by decide +kernel
theorem dX7_write_66 : decode cX7_write 66 = .ok (.iconst 1, 1) := by decide +kernel
theorem dX7_write_67 : decode cX7_write 67 = .ok (.invokevirtual 80, 3) := by decide +kernel
theorem dX7_write_70 : decode cX7_write 70 = .ok (.ireturn, 1) := by decide +kernel
set_option maxRecDepth 20000 in
theorem ggX7_read_X7_rowAt : GoodIn wsX7_read wsX7_rowAt := goodIn_r _ [7, 8, 31, 32, 33, 34, 35, 36, 37, 38, 39, 40] (by decide +kernel) (by decide +kernel)
set_option maxRecDepth 20000 in
theorem gX7_read_X7_rowAt : GoodIn wsX7_read (wsV RX7 129 RX7 yX7_rowAt wsX7_rowAt) := goodIn_app (goodIn_of _ (by decide +kernel)) ggX7_read_X7_rowAt
set_option maxRecDepth 20000 in
theorem ggX7_read_X5_failureAt : GoodIn wsX7_read wsX5_failureAt := goodIn_r _ [13, 14, 15, 16, 17, 12, 18, 29, 30] (by decide +kernel) (by decide +kernel)
set_option maxRecDepth 20000 in
theorem gX7_read_X5_failureAt : GoodIn wsX7_read (wsV RX7 137 RX5 yX5_failureAt wsX5_failureAt) := goodIn_app (goodIn_of _ (by decide +kernel)) ggX7_read_X5_failureAt
set_option maxRecDepth 20000 in
theorem ggX7_read_X7_failWith : GoodIn wsX7_read wsX7_failWith := goodIn_r _ [22, 23, 24, 31, 32, 33, 34, 35, 36, 37, 38, 39, 40] (by decide +kernel) (by decide +kernel)
set_option maxRecDepth 20000 in
theorem gX7_read_X7_failWith : GoodIn wsX7_read (wsV RX7 84 RX7 yX7_failWith wsX7_failWith) := goodIn_app (goodIn_of _ (by decide +kernel)) ggX7_read_X7_failWith
set_option maxRecDepth 20000 in
theorem ggX7_read_X7_done : GoodIn wsX7_read wsX7_done := goodIn_r _ [28, 23, 31, 32, 33, 34, 35, 36, 37, 38, 39, 40] (by decide +kernel) (by decide +kernel)
set_option maxRecDepth 20000 in
theorem gX7_read_X7_done : GoodIn wsX7_read (wsV RX7 80 RX7 yX7_done wsX7_done) := goodIn_app (goodIn_of _ (by decide +kernel)) ggX7_read_X7_done
theorem dX7_read_0 : decode cX7_read 0 = .ok (.aload_n 0, 1) := by decide +kernel
theorem dX7_read_1 : decode cX7_read 1 = .ok (.iload_n 1, 1) := by decide +kernel
theorem dX7_read_2 : decode cX7_read 2 = .ok (.iload_n 2, 1) := by decide +kernel
theorem dX7_read_3 : decode cX7_read 3 = .ok (.invokevirtual 129, 3) := by decide +kernel
theorem dX7_read_6 : decode cX7_read 6 = .ok (.astore 4, 2) := by decide +kernel
theorem dX7_read_8 : decode cX7_read 8 = .ok (.aload 4, 2) := by decide +kernel
theorem dX7_read_10 : decode cX7_read 10 = .ok (.ifnonnull 6, 3) := by decide +kernel
theorem dX7_read_13 : decode cX7_read 13 = .ok (.bipush (-101), 2) := by decide +kernel
theorem dX7_read_15 : decode cX7_read 15 = .ok (.ireturn, 1) := by decide +kernel
theorem dX7_read_16 : decode cX7_read 16 = .ok (.aload 4, 2) := by decide +kernel
theorem dX7_read_18 : decode cX7_read 18 = .ok (.iload_n 3, 1) := by decide +kernel
theorem dX7_read_19 : decode cX7_read 19 = .ok (.invokevirtual 137, 3) := by decide +kernel
theorem dX7_read_22 : decode cX7_read 22 = .ok (.istore 5, 2) := by decide +kernel
theorem dX7_read_24 : decode cX7_read 24 = .ok (.iload 5, 2) := by decide +kernel
theorem dX7_read_26 : decode cX7_read 26 = .ok (.ifCond .eq 10, 3) := by decide +kernel
theorem dX7_read_29 : decode cX7_read 29 = .ok (.aload_n 0, 1) := by decide +kernel
theorem dX7_read_30 : decode cX7_read 30 = .ok (.iload 5, 2) := by decide +kernel
theorem dX7_read_32 : decode cX7_read 32 = .ok (.invokevirtual 84, 3) := by decide +kernel
theorem dX7_read_35 : decode cX7_read 35 = .ok (.ireturn, 1) := by decide +kernel
theorem dX7_read_36 : decode cX7_read 36 = .ok (.aload_n 0, 1) := by decide +kernel
theorem dX7_read_37 : decode cX7_read 37 = .ok (.aload 4, 2) := by decide +kernel
theorem dX7_read_39 : decode cX7_read 39 = .ok (.getfield 140, 3) := by decide +kernel
theorem dX7_read_42 : decode cX7_read 42 = .ok (.iload_n 3, 1) := by decide +kernel
theorem dX7_read_43 : decode cX7_read 43 = .ok (.laload, 1) := by decide +kernel
theorem dX7_read_44 : decode cX7_read 44 = .ok (.putfield 40, 3) := by decide +kernel
theorem dX7_read_47 : decode cX7_read 47 = .ok (.aload_n 0, 1) := by decide +kernel
theorem dX7_read_48 : decode cX7_read 48 = .ok (.iconst 1, 1) := by decide +kernel
theorem dX7_read_49 : decode cX7_read 49 = .ok (.invokevirtual 80, 3) := by decide +kernel
theorem dX7_read_52 : decode cX7_read 52 = .ok (.ireturn, 1) := by decide +kernel
theorem dX7_seen_0 : decode cX7_seen 0 = .ok (.aload_n 0, 1) := by decide +kernel
theorem dX7_seen_1 : decode cX7_seen 1 = .ok (.getfield 40, 3) := by decide +kernel
theorem dX7_seen_4 : decode cX7_seen 4 = .ok (.lreturn, 1) := by decide +kernel
set_option maxRecDepth 20000 in
theorem ggX7_note_X7_rowAt : GoodIn wsX7_note wsX7_rowAt := goodIn_r _ [8, 9, 98, 99, 100, 101, 102, 103, 104, 105, 106, 107] (by decide +kernel) (by decide +kernel)
set_option maxRecDepth 20000 in
theorem gX7_note_X7_rowAt : GoodIn wsX7_note (wsV RX7 129 RX7 yX7_rowAt wsX7_rowAt) := goodIn_app (goodIn_of _ (by decide +kernel)) ggX7_note_X7_rowAt
set_option maxRecDepth 20000 in
theorem ggX7_note_X7_dialAt : GoodIn wsX7_note wsX7_dialAt := goodIn_r _ [13, 14, 15, 98, 99, 100, 101, 102, 103, 104, 105, 106, 107] (by decide +kernel) (by decide +kernel)
set_option maxRecDepth 20000 in
theorem gX7_note_X7_dialAt : GoodIn wsX7_note (wsV RX7 68 RX7 yX7_dialAt wsX7_dialAt) := goodIn_app (goodIn_of _ (by decide +kernel)) ggX7_note_X7_dialAt
set_option maxRecDepth 20000 in
theorem ggX7_note_X5_failureAt : GoodIn wsX7_note wsX5_failureAt := goodIn_r _ [20, 21, 22, 23, 24, 19, 25, 92, 93] (by decide +kernel) (by decide +kernel)
set_option maxRecDepth 20000 in
theorem gX7_note_X5_failureAt : GoodIn wsX7_note (wsV RX7 137 RX5 yX5_failureAt wsX5_failureAt) := goodIn_app (goodIn_of _ (by decide +kernel)) ggX7_note_X5_failureAt
set_option maxRecDepth 20000 in
theorem ggX7_note_X7_failWith : GoodIn wsX7_note wsX7_failWith := goodIn_r _ [29, 30, 31, 98, 99, 100, 101, 102, 103, 104, 105, 106, 107] (by decide +kernel) (by decide +kernel)
set_option maxRecDepth 20000 in
theorem gX7_note_X7_failWith : GoodIn wsX7_note (wsV RX7 84 RX7 yX7_failWith wsX7_failWith) := goodIn_app (goodIn_of _ (by decide +kernel)) ggX7_note_X7_failWith
set_option maxRecDepth 20000 in
theorem ggX7_note_X4_ofReal : GoodIn wsX7_note wsX4_ofReal := goodIn_r _ [35, 36, 37, 34, 38, 39, 40, 41, 42, 43, 44, 45, 46, 47, 48, 49, 50, 51, 52, 53, 54, 55, 56, 57, 58, 59, 60, 61, 62, 63, 64, 65, 66, 67, 68, 69, 70, 71, 72, 73, 74, 75, 76, 77, 78, 79, 80, 81, 82, 83, 84, 85, 86, 87] (by decide +kernel) (by decide +kernel)
set_option maxRecDepth 20000 in
theorem gX7_note_X4_ofReal : GoodIn wsX7_note (va_wsS RX7 144 yX4_ofReal wsX4_ofReal) := goodIn_app (goodIn_of _ (by decide +kernel)) ggX7_note_X4_ofReal
set_option maxRecDepth 20000 in
theorem ggX7_note_X7_done : GoodIn wsX7_note wsX7_done := goodIn_r _ [91, 30, 98, 99, 100, 101, 102, 103, 104, 105, 106, 107] (by decide +kernel) (by decide +kernel)
set_option maxRecDepth 20000 in
theorem gX7_note_X7_done : GoodIn wsX7_note (wsV RX7 80 RX7 yX7_done wsX7_done) := goodIn_app (goodIn_of _ (by decide +kernel)) ggX7_note_X7_done
theorem dX7_note_0 : decode cX7_note 0 = .ok (.aload_n 0, 1) := by decide +kernel
theorem dX7_note_1 : decode cX7_note 1 = .ok (.iload_n 1, 1) := by decide +kernel
theorem dX7_note_2 : decode cX7_note 2 = .ok (.iload_n 2, 1) := by decide +kernel
theorem dX7_note_3 : decode cX7_note 3 = .ok (.invokevirtual 129, 3) := by decide +kernel
theorem dX7_note_6 : decode cX7_note 6 = .ok (.astore 5, 2) := by decide +kernel
theorem dX7_note_8 : decode cX7_note 8 = .ok (.aload_n 0, 1) := by decide +kernel
theorem dX7_note_9 : decode cX7_note 9 = .ok (.iload 4, 2) := by decide +kernel
theorem dX7_note_11 : decode cX7_note 11 = .ok (.invokevirtual 68, 3) := by decide +kernel
theorem dX7_note_14 : decode cX7_note 14 = .ok (.astore 6, 2) := by decide +kernel
theorem dX7_note_16 : decode cX7_note 16 = .ok (.aload 5, 2) := by decide +kernel
theorem dX7_note_18 : decode cX7_note 18 = .ok (.ifnull 8, 3) := by decide +kernel
theorem dX7_note_21 : decode cX7_note 21 = .ok (.aload 6, 2) := by decide +kernel
theorem dX7_note_23 : decode cX7_note 23 = .ok (.ifnonnull 6, 3) := by decide +kernel
theorem dX7_note_26 : decode cX7_note 26 = .ok (.bipush (-101), 2) := by decide +kernel
theorem dX7_note_28 : decode cX7_note 28 = .ok (.ireturn, 1) := by decide +kernel
theorem dX7_note_29 : decode cX7_note 29 = .ok (.aload 5, 2) := by decide +kernel
theorem dX7_note_31 : decode cX7_note 31 = .ok (.iload_n 3, 1) := by decide +kernel
theorem dX7_note_32 : decode cX7_note 32 = .ok (.invokevirtual 137, 3) := by decide +kernel
theorem dX7_note_35 : decode cX7_note 35 = .ok (.istore 7, 2) := by decide +kernel
theorem dX7_note_37 : decode cX7_note 37 = .ok (.iload 7, 2) := by decide +kernel
theorem dX7_note_39 : decode cX7_note 39 = .ok (.ifCond .eq 10, 3) := by decide +kernel
theorem dX7_note_42 : decode cX7_note 42 = .ok (.aload_n 0, 1) := by decide +kernel
theorem dX7_note_43 : decode cX7_note 43 = .ok (.iload 7, 2) := by decide +kernel
theorem dX7_note_45 : decode cX7_note 45 = .ok (.invokevirtual 84, 3) := by decide +kernel
theorem dX7_note_48 : decode cX7_note 48 = .ok (.ireturn, 1) := by decide +kernel
theorem dX7_note_49 : decode cX7_note 49 = .ok (.aload 5, 2) := by decide +kernel
theorem dX7_note_51 : decode cX7_note 51 = .ok (.getfield 140, 3) := by decide +kernel
theorem dX7_note_54 : decode cX7_note 54 = .ok (.iload_n 3, 1) := by decide +kernel
theorem dX7_note_55 : decode cX7_note 55 = .ok (.aload 6, 2) := by decide +kernel
theorem dX7_note_57 : decode cX7_note 57 = .ok (.getfield 72, 3) := by decide +kernel
theorem dX7_note_60 : decode cX7_note 60 = .ok (.iload_n 2, 1) := by decide +kernel
theorem dX7_note_61 : decode cX7_note 61 = .ok (.aload 6, 2) := by decide +kernel
theorem dX7_note_63 : decode cX7_note 63 = .ok (.getfield 87, 3) := by decide +kernel
theorem dX7_note_66 : decode cX7_note 66 = .ok (.invokestatic 144, 3) := by decide +kernel
theorem dX7_note_69 : decode cX7_note 69 = .ok (.lastore, 1) := by decide +kernel
theorem dX7_note_70 : decode cX7_note 70 = .ok (.aload_n 0, 1) := by decide +kernel
theorem dX7_note_71 : decode cX7_note 71 = .ok (.iconst 1, 1) := by decide +kernel
theorem dX7_note_72 : decode cX7_note 72 = .ok (.invokevirtual 80, 3) := by decide +kernel
theorem dX7_note_75 : decode cX7_note 75 = .ok (.ireturn, 1) := by decide +kernel
set_option maxRecDepth 20000 in
theorem ggX7_recall_X7_rowAt : GoodIn wsX7_recall wsX7_rowAt := goodIn_r _ [9, 10, 106, 107, 108, 109, 110, 111, 112, 113, 114, 115] (by decide +kernel) (by decide +kernel)
set_option maxRecDepth 20000 in
theorem gX7_recall_X7_rowAt : GoodIn wsX7_recall (wsV RX7 129 RX7 yX7_rowAt wsX7_rowAt) := goodIn_app (goodIn_of _ (by decide +kernel)) ggX7_recall_X7_rowAt
set_option maxRecDepth 20000 in
theorem ggX7_recall_X7_dialAt : GoodIn wsX7_recall wsX7_dialAt := goodIn_r _ [14, 15, 16, 106, 107, 108, 109, 110, 111, 112, 113, 114, 115] (by decide +kernel) (by decide +kernel)
set_option maxRecDepth 20000 in
theorem gX7_recall_X7_dialAt : GoodIn wsX7_recall (wsV RX7 68 RX7 yX7_dialAt wsX7_dialAt) := goodIn_app (goodIn_of _ (by decide +kernel)) ggX7_recall_X7_dialAt
set_option maxRecDepth 20000 in
theorem ggX7_recall_X5_failureAt : GoodIn wsX7_recall wsX5_failureAt := goodIn_r _ [21, 22, 23, 24, 25, 20, 26, 104, 105] (by decide +kernel) (by decide +kernel)
set_option maxRecDepth 20000 in
theorem gX7_recall_X5_failureAt : GoodIn wsX7_recall (wsV RX7 137 RX5 yX5_failureAt wsX5_failureAt) := goodIn_app (goodIn_of _ (by decide +kernel)) ggX7_recall_X5_failureAt
set_option maxRecDepth 20000 in
theorem ggX7_recall_X7_failWith : GoodIn wsX7_recall wsX7_failWith := goodIn_r _ [30, 31, 32, 106, 107, 108, 109, 110, 111, 112, 113, 114, 115] (by decide +kernel) (by decide +kernel)
set_option maxRecDepth 20000 in
theorem gX7_recall_X7_failWith : GoodIn wsX7_recall (wsV RX7 84 RX7 yX7_failWith wsX7_failWith) := goodIn_app (goodIn_of _ (by decide +kernel)) ggX7_recall_X7_failWith
set_option maxRecDepth 20000 in
theorem ggX7_recall_X4_ofReal : GoodIn wsX7_recall wsX4_ofReal := goodIn_r _ [36, 37, 38, 35, 39, 40, 41, 42, 43, 44, 45, 46, 47, 48, 49, 50, 51, 52, 53, 54, 55, 56, 57, 58, 59, 60, 61, 62, 63, 64, 65, 66, 67, 68, 69, 70, 71, 72, 73, 74, 75, 76, 77, 78, 79, 80, 81, 82, 83, 84, 85, 86, 87, 88] (by decide +kernel) (by decide +kernel)
set_option maxRecDepth 20000 in
theorem gX7_recall_X4_ofReal : GoodIn wsX7_recall (va_wsS RX7 144 yX4_ofReal wsX4_ofReal) := goodIn_app (goodIn_of _ (by decide +kernel)) ggX7_recall_X4_ofReal
set_option maxRecDepth 20000 in
theorem ggX7_recall_X4_isFit : GoodIn wsX7_recall wsX4_isFit := goodIn_r _ [39, 40, 41, 35, 42, 43, 44, 45, 46, 47, 48, 49] (by decide +kernel) (by decide +kernel)
set_option maxRecDepth 20000 in
theorem gX7_recall_X4_isFit : GoodIn wsX7_recall (va_wsS RX7 58 yX4_isFit wsX4_isFit) := goodIn_app (goodIn_of _ (by decide +kernel)) ggX7_recall_X4_isFit
set_option maxRecDepth 20000 in
theorem ggX7_recall_X4_leftOver : GoodIn wsX7_recall wsX4_leftOver := goodIn_r _ [92, 64, 65, 66, 67, 93, 94, 95, 55, 56, 35, 57, 58, 59, 60, 40, 41, 42, 43, 44, 77, 78, 79, 80, 81, 82, 83, 84, 85, 61, 62, 63, 68, 69, 70, 71, 72, 73, 50, 51, 52, 53, 54, 74, 75, 76, 45, 46, 47, 48, 49, 86, 87, 88] (by decide +kernel) (by decide +kernel)
set_option maxRecDepth 20000 in
theorem gX7_recall_X4_leftOver : GoodIn wsX7_recall (va_wsS RX7 148 yX4_leftOver wsX4_leftOver) := goodIn_app (goodIn_of _ (by decide +kernel)) ggX7_recall_X4_leftOver
set_option maxRecDepth 20000 in
theorem ggX7_recall_X7_done : GoodIn wsX7_recall wsX7_done := goodIn_r _ [99, 31, 106, 107, 108, 109, 110, 111, 112, 113, 114, 115] (by decide +kernel) (by decide +kernel)
set_option maxRecDepth 20000 in
theorem gX7_recall_X7_done : GoodIn wsX7_recall (wsV RX7 80 RX7 yX7_done wsX7_done) := goodIn_app (goodIn_of _ (by decide +kernel)) ggX7_recall_X7_done
theorem dX7_recall_0 : decode cX7_recall 0 = .ok (.aload_n 0, 1) := by decide +kernel
theorem dX7_recall_1 : decode cX7_recall 1 = .ok (.iload_n 1, 1) := by decide +kernel
theorem dX7_recall_2 : decode cX7_recall 2 = .ok (.iload_n 2, 1) := by decide +kernel
theorem dX7_recall_3 : decode cX7_recall 3 = .ok (.invokevirtual 129, 3) := by decide +kernel
theorem dX7_recall_6 : decode cX7_recall 6 = .ok (.astore 5, 2) := by decide +kernel
theorem dX7_recall_8 : decode cX7_recall 8 = .ok (.aload_n 0, 1) := by decide +kernel
theorem dX7_recall_9 : decode cX7_recall 9 = .ok (.iload 4, 2) := by decide +kernel
theorem dX7_recall_11 : decode cX7_recall 11 = .ok (.invokevirtual 68, 3) := by decide +kernel
theorem dX7_recall_14 : decode cX7_recall 14 = .ok (.astore 6, 2) := by decide +kernel
theorem dX7_recall_16 : decode cX7_recall 16 = .ok (.aload 5, 2) := by decide +kernel
theorem dX7_recall_18 : decode cX7_recall 18 = .ok (.ifnull 8, 3) := by decide +kernel
theorem dX7_recall_21 : decode cX7_recall 21 = .ok (.aload 6, 2) := by decide +kernel
theorem dX7_recall_23 : decode cX7_recall 23 = .ok (.ifnonnull 6, 3) := by decide +kernel
theorem dX7_recall_26 : decode cX7_recall 26 = .ok (.bipush (-101), 2) := by decide +kernel
theorem dX7_recall_28 : decode cX7_recall 28 = .ok (.ireturn, 1) := by decide +kernel
theorem dX7_recall_29 : decode cX7_recall 29 = .ok (.aload 5, 2) := by decide +kernel
theorem dX7_recall_31 : decode cX7_recall 31 = .ok (.iload_n 3, 1) := by decide +kernel
theorem dX7_recall_32 : decode cX7_recall 32 = .ok (.invokevirtual 137, 3) := by decide +kernel
theorem dX7_recall_35 : decode cX7_recall 35 = .ok (.istore 7, 2) := by decide +kernel
theorem dX7_recall_37 : decode cX7_recall 37 = .ok (.iload 7, 2) := by decide +kernel
theorem dX7_recall_39 : decode cX7_recall 39 = .ok (.ifCond .eq 10, 3) := by decide +kernel
theorem dX7_recall_42 : decode cX7_recall 42 = .ok (.aload_n 0, 1) := by decide +kernel
theorem dX7_recall_43 : decode cX7_recall 43 = .ok (.iload 7, 2) := by decide +kernel
theorem dX7_recall_45 : decode cX7_recall 45 = .ok (.invokevirtual 84, 3) := by decide +kernel
theorem dX7_recall_48 : decode cX7_recall 48 = .ok (.ireturn, 1) := by decide +kernel
theorem dX7_recall_49 : decode cX7_recall 49 = .ok (.iload_n 2, 1) := by decide +kernel
theorem dX7_recall_50 : decode cX7_recall 50 = .ok (.aload 6, 2) := by decide +kernel
theorem dX7_recall_52 : decode cX7_recall 52 = .ok (.getfield 72, 3) := by decide +kernel
theorem dX7_recall_55 : decode cX7_recall 55 = .ok (.aload 5, 2) := by decide +kernel
theorem dX7_recall_57 : decode cX7_recall 57 = .ok (.getfield 140, 3) := by decide +kernel
theorem dX7_recall_60 : decode cX7_recall 60 = .ok (.iload_n 3, 1) := by decide +kernel
theorem dX7_recall_61 : decode cX7_recall 61 = .ok (.laload, 1) := by decide +kernel
theorem dX7_recall_62 : decode cX7_recall 62 = .ok (.invokestatic 144, 3) := by decide +kernel
theorem dX7_recall_65 : decode cX7_recall 65 = .ok (.lstore 8, 2) := by decide +kernel
theorem dX7_recall_67 : decode cX7_recall 67 = .ok (.aload 6, 2) := by decide +kernel
theorem dX7_recall_69 : decode cX7_recall 69 = .ok (.getfield 72, 3) := by decide +kernel
theorem dX7_recall_72 : decode cX7_recall 72 = .ok (.lload 8, 2) := by decide +kernel
theorem dX7_recall_74 : decode cX7_recall 74 = .ok (.invokestatic 58, 3) := by decide +kernel
theorem dX7_recall_77 : decode cX7_recall 77 = .ok (.ifCond .ne 10, 3) := by decide +kernel
theorem dX7_recall_80 : decode cX7_recall 80 = .ok (.aload_n 0, 1) := by decide +kernel
theorem dX7_recall_81 : decode cX7_recall 81 = .ok (.bipush (-15), 2) := by decide +kernel
theorem dX7_recall_83 : decode cX7_recall 83 = .ok (.invokevirtual 84, 3) := by decide +kernel
theorem dX7_recall_86 : decode cX7_recall 86 = .ok (.ireturn, 1) := by decide +kernel
theorem dX7_recall_87 : decode cX7_recall 87 = .ok (.aload 6, 2) := by decide +kernel
theorem dX7_recall_89 : decode cX7_recall 89 = .ok (.aload 6, 2) := by decide +kernel
theorem dX7_recall_91 : decode cX7_recall 91 = .ok (.getfield 72, 3) := by decide +kernel
theorem dX7_recall_94 : decode cX7_recall 94 = .ok (.lload 8, 2) := by decide +kernel
theorem dX7_recall_96 : decode cX7_recall 96 = .ok (.aload 6, 2) := by decide +kernel
theorem dX7_recall_98 : decode cX7_recall 98 = .ok (.getfield 90, 3) := by decide +kernel
theorem dX7_recall_101 : decode cX7_recall 101 = .ok (.invokestatic 148, 3) := by decide +kernel
theorem dX7_recall_104 : decode cX7_recall 104 = .ok (.putfield 87, 3) := by decide +kernel
theorem dX7_recall_107 : decode cX7_recall 107 = .ok (.aload_n 0, 1) := by decide +kernel
theorem dX7_recall_108 : decode cX7_recall 108 = .ok (.iconst 1, 1) := by decide +kernel
theorem dX7_recall_109 : decode cX7_recall 109 = .ok (.invokevirtual 80, 3) := by decide +kernel
theorem dX7_recall_112 : decode cX7_recall 112 = .ok (.ireturn, 1) := by decide +kernel
set_option maxRecDepth 20000 in
theorem ggX7_sift_X7_rowAt : GoodIn wsX7_sift wsX7_rowAt := goodIn_r _ [8, 9, 93, 94, 95, 96, 97, 98, 99, 100, 101, 102] (by decide +kernel) (by decide +kernel)
set_option maxRecDepth 20000 in
theorem gX7_sift_X7_rowAt : GoodIn wsX7_sift (wsV RX7 129 RX7 yX7_rowAt wsX7_rowAt) := goodIn_app (goodIn_of _ (by decide +kernel)) ggX7_sift_X7_rowAt
set_option maxRecDepth 20000 in
theorem ggX7_sift_X4_told : GoodIn wsX7_sift wsX4_told := goodIn_r _ [13] (by decide +kernel) (by decide +kernel)
set_option maxRecDepth 20000 in
theorem gX7_sift_X4_told : GoodIn wsX7_sift (va_wsS RX7 52 yX4_told wsX4_told) := goodIn_app (goodIn_of _ (by decide +kernel)) ggX7_sift_X4_told
set_option maxRecDepth 20000 in
theorem ggX7_sift_X4_isFit : GoodIn wsX7_sift wsX4_isFit := goodIn_r _ [16, 17, 18, 12, 19, 20, 21, 22, 23, 24, 25, 26] (by decide +kernel) (by decide +kernel)
set_option maxRecDepth 20000 in
theorem gX7_sift_X4_isFit : GoodIn wsX7_sift (va_wsS RX7 58 yX4_isFit wsX4_isFit) := goodIn_app (goodIn_of _ (by decide +kernel)) ggX7_sift_X4_isFit
set_option maxRecDepth 20000 in
theorem ggX7_sift_X5_isMissing : GoodIn wsX7_sift wsX5_isMissing := goodIn_r _ [31, 32, 91, 92] (by decide +kernel) (by decide +kernel)
set_option maxRecDepth 20000 in
theorem gX7_sift_X5_isMissing : GoodIn wsX7_sift (wsV RX7 152 RX5 yX5_isMissing wsX5_isMissing) := goodIn_app (goodIn_of _ (by decide +kernel)) ggX7_sift_X5_isMissing
set_option maxRecDepth 20000 in
theorem ggX7_sift_X7_failWith : GoodIn wsX7_sift wsX7_failWith := goodIn_r _ [36, 37, 38, 93, 94, 95, 96, 97, 98, 99, 100, 101, 102] (by decide +kernel) (by decide +kernel)
set_option maxRecDepth 20000 in
theorem gX7_sift_X7_failWith : GoodIn wsX7_sift (wsV RX7 84 RX7 yX7_failWith wsX7_failWith) := goodIn_app (goodIn_of _ (by decide +kernel)) ggX7_sift_X7_failWith
set_option maxRecDepth 20000 in
theorem ggX7_sift_X4_isZero : GoodIn wsX7_sift wsX4_isZero := goodIn_r _ [41, 17, 18, 12, 19, 20, 21] (by decide +kernel) (by decide +kernel)
set_option maxRecDepth 20000 in
theorem gX7_sift_X4_isZero : GoodIn wsX7_sift (va_wsS RX7 62 yX4_isZero wsX4_isZero) := goodIn_app (goodIn_of _ (by decide +kernel)) ggX7_sift_X4_isZero
set_option maxRecDepth 20000 in
theorem ggX7_sift_X4_leftOver : GoodIn wsX7_sift wsX4_leftOver := goodIn_r _ [44, 45, 46, 47, 48, 49, 50, 51, 52, 53, 12, 54, 55, 56, 57, 17, 18, 19, 20, 21, 58, 59, 60, 61, 62, 63, 64, 65, 66, 67, 68, 69, 70, 71, 72, 73, 74, 75, 76, 77, 78, 79, 80, 81, 82, 83, 22, 23, 24, 25, 26, 84, 85, 86] (by decide +kernel) (by decide +kernel)
set_option maxRecDepth 20000 in
theorem gX7_sift_X4_leftOver : GoodIn wsX7_sift (va_wsS RX7 148 yX4_leftOver wsX4_leftOver) := goodIn_app (goodIn_of _ (by decide +kernel)) ggX7_sift_X4_leftOver
set_option maxRecDepth 20000 in
theorem ggX7_sift_X7_done : GoodIn wsX7_sift wsX7_done := goodIn_r _ [90, 37, 93, 94, 95, 96, 97, 98, 99, 100, 101, 102] (by decide +kernel) (by decide +kernel)
set_option maxRecDepth 20000 in
theorem gX7_sift_X7_done : GoodIn wsX7_sift (wsV RX7 80 RX7 yX7_done wsX7_done) := goodIn_app (goodIn_of _ (by decide +kernel)) ggX7_sift_X7_done
theorem dX7_sift_0 : decode cX7_sift 0 = .ok (.aload_n 0, 1) := by decide +kernel
theorem dX7_sift_1 : decode cX7_sift 1 = .ok (.iload_n 1, 1) := by decide +kernel
theorem dX7_sift_2 : decode cX7_sift 2 = .ok (.iload_n 2, 1) := by decide +kernel
theorem dX7_sift_3 : decode cX7_sift 3 = .ok (.invokevirtual 129, 3) := by decide +kernel
theorem dX7_sift_6 : decode cX7_sift 6 = .ok (.astore 5, 2) := by decide +kernel
theorem dX7_sift_8 : decode cX7_sift 8 = .ok (.aload 5, 2) := by decide +kernel
theorem dX7_sift_10 : decode cX7_sift 10 = .ok (.ifnonnull 6, 3) := by decide +kernel
theorem dX7_sift_13 : decode cX7_sift 13 = .ok (.bipush (-101), 2) := by decide +kernel
theorem dX7_sift_15 : decode cX7_sift 15 = .ok (.ireturn, 1) := by decide +kernel
theorem dX7_sift_16 : decode cX7_sift 16 = .ok (.iload_n 2, 1) := by decide +kernel
theorem dX7_sift_17 : decode cX7_sift 17 = .ok (.lload_n 3, 1) := by decide +kernel
theorem dX7_sift_18 : decode cX7_sift 18 = .ok (.invokestatic 52, 3) := by decide +kernel
theorem dX7_sift_21 : decode cX7_sift 21 = .ok (.lstore 6, 2) := by decide +kernel
theorem dX7_sift_23 : decode cX7_sift 23 = .ok (.iload_n 2, 1) := by decide +kernel
theorem dX7_sift_24 : decode cX7_sift 24 = .ok (.lload 6, 2) := by decide +kernel
theorem dX7_sift_26 : decode cX7_sift 26 = .ok (.invokestatic 58, 3) := by decide +kernel
theorem dX7_sift_29 : decode cX7_sift 29 = .ok (.ifCond .ne 6, 3) := by decide +kernel
theorem dX7_sift_32 : decode cX7_sift 32 = .ok (.bipush (-102), 2) := by decide +kernel
theorem dX7_sift_34 : decode cX7_sift 34 = .ok (.ireturn, 1) := by decide +kernel
theorem dX7_sift_35 : decode cX7_sift 35 = .ok (.aload 5, 2) := by decide +kernel
theorem dX7_sift_37 : decode cX7_sift 37 = .ok (.invokevirtual 152, 3) := by decide +kernel
theorem dX7_sift_40 : decode cX7_sift 40 = .ok (.ifCond .eq 10, 3) := by decide +kernel
theorem dX7_sift_43 : decode cX7_sift 43 = .ok (.aload_n 0, 1) := by decide +kernel
theorem dX7_sift_44 : decode cX7_sift 44 = .ok (.bipush (-11), 2) := by decide +kernel
theorem dX7_sift_46 : decode cX7_sift 46 = .ok (.invokevirtual 84, 3) := by decide +kernel
theorem dX7_sift_49 : decode cX7_sift 49 = .ok (.ireturn, 1) := by decide +kernel
theorem dX7_sift_50 : decode cX7_sift 50 = .ok (.iconst 0, 1) := by decide +kernel
theorem dX7_sift_51 : decode cX7_sift 51 = .ok (.istore 8, 2) := by decide +kernel
theorem dX7_sift_53 : decode cX7_sift 53 = .ok (.iconst 0, 1) := by decide +kernel
theorem dX7_sift_54 : decode cX7_sift 54 = .ok (.istore 9, 2) := by decide +kernel
theorem dX7_sift_56 : decode cX7_sift 56 = .ok (.iload 9, 2) := by decide +kernel
theorem dX7_sift_58 : decode cX7_sift 58 = .ok (.aload 5, 2) := by decide +kernel
theorem dX7_sift_60 : decode cX7_sift 60 = .ok (.getfield 156, 3) := by decide +kernel
theorem dX7_sift_63 : decode cX7_sift 63 = .ok (.if_icmp .ge 43, 3) := by decide +kernel
theorem dX7_sift_66 : decode cX7_sift 66 = .ok (.iload_n 2, 1) := by decide +kernel
theorem dX7_sift_67 : decode cX7_sift 67 = .ok (.aload 5, 2) := by decide +kernel
theorem dX7_sift_69 : decode cX7_sift 69 = .ok (.getfield 140, 3) := by decide +kernel
theorem dX7_sift_72 : decode cX7_sift 72 = .ok (.iload 9, 2) := by decide +kernel
theorem dX7_sift_74 : decode cX7_sift 74 = .ok (.laload, 1) := by decide +kernel
theorem dX7_sift_75 : decode cX7_sift 75 = .ok (.invokestatic 62, 3) := by decide +kernel
theorem dX7_sift_78 : decode cX7_sift 78 = .ok (.ifCond .ne 22, 3) := by decide +kernel
theorem dX7_sift_81 : decode cX7_sift 81 = .ok (.iload_n 2, 1) := by decide +kernel
theorem dX7_sift_82 : decode cX7_sift 82 = .ok (.lload 6, 2) := by decide +kernel
theorem dX7_sift_84 : decode cX7_sift 84 = .ok (.aload 5, 2) := by decide +kernel
theorem dX7_sift_86 : decode cX7_sift 86 = .ok (.getfield 140, 3) := by decide +kernel
theorem dX7_sift_89 : decode cX7_sift 89 = .ok (.iload 9, 2) := by decide +kernel
theorem dX7_sift_91 : decode cX7_sift 91 = .ok (.laload, 1) := by decide +kernel
theorem dX7_sift_92 : decode cX7_sift 92 = .ok (.invokestatic 148, 3) := by decide +kernel
theorem dX7_sift_95 : decode cX7_sift 95 = .ok (.lstore 6, 2) := by decide +kernel
theorem dX7_sift_97 : decode cX7_sift 97 = .ok (.iinc 8 1, 3) := by decide +kernel
theorem dX7_sift_100 : decode cX7_sift 100 = .ok (.iinc 9 1, 3) := by decide +kernel
theorem dX7_sift_103 : decode cX7_sift 103 = .ok (.goto (-47), 3) := by decide +kernel
theorem dX7_sift_106 : decode cX7_sift 106 = .ok (.aload_n 0, 1) := by decide +kernel
theorem dX7_sift_107 : decode cX7_sift 107 = .ok (.lload 6, 2) := by decide +kernel
theorem dX7_sift_109 : decode cX7_sift 109 = .ok (.putfield 40, 3) := by decide +kernel
theorem dX7_sift_112 : decode cX7_sift 112 = .ok (.aload_n 0, 1) := by decide +kernel
theorem dX7_sift_113 : decode cX7_sift 113 = .ok (.iload 8, 2) := by decide +kernel
theorem dX7_sift_115 : decode cX7_sift 115 = .ok (.invokevirtual 80, 3) := by decide +kernel
theorem dX7_sift_118 : decode cX7_sift 118 = .ok (.ireturn, 1) := by decide +kernel
set_option maxRecDepth 20000 in
theorem ggX7_cast_X7_isKind : GoodIn wsX7_cast wsX7_isKind := goodIn_r _ [5] (by decide +kernel) (by decide +kernel)
set_option maxRecDepth 20000 in
theorem gX7_cast_X7_isKind : GoodIn wsX7_cast (va_wsS RX7 159 yX7_isKind wsX7_isKind) := goodIn_app (goodIn_of _ (by decide +kernel)) ggX7_cast_X7_isKind
set_option maxRecDepth 20000 in
theorem ggX7_cast_X7_isReal : GoodIn wsX7_cast wsX7_isReal := goodIn_r _ [8] (by decide +kernel) (by decide +kernel)
set_option maxRecDepth 20000 in
theorem gX7_cast_X7_isReal : GoodIn wsX7_cast (va_wsS RX7 162 yX7_isReal wsX7_isReal) := goodIn_app (goodIn_of _ (by decide +kernel)) ggX7_cast_X7_isReal
set_option maxRecDepth 20000 in
theorem ggX7_cast_X4_isNumber : GoodIn wsX7_cast wsX4_isNumber := goodIn_r _ [12, 13, 14, 11, 15, 16, 17, 18, 19, 20, 21, 22] (by decide +kernel) (by decide +kernel)
set_option maxRecDepth 20000 in
theorem gX7_cast_X4_isNumber : GoodIn wsX7_cast (va_wsS RX7 165 yX4_isNumber wsX4_isNumber) := goodIn_app (goodIn_of _ (by decide +kernel)) ggX7_cast_X4_isNumber
set_option maxRecDepth 20000 in
theorem ggX7_cast_X7_castReal : GoodIn wsX7_cast wsX7_castReal := goodIn_r _ [25, 26, 27, 28, 29, 30, 31, 32, 33, 34, 6, 7, 4, 8, 35, 36, 11, 37, 38, 39, 40, 13, 14, 15, 16, 17, 18, 19, 20, 21, 22, 41, 42, 43, 44, 45, 46, 47, 48, 49, 50, 51, 52, 53, 54, 55, 56, 57, 58, 59, 60, 61, 62, 63, 64, 65, 66, 67, 68, 69, 70, 71, 72, 73, 74, 75, 76, 77, 78, 79, 80, 81] (by decide +kernel) (by decide +kernel)
set_option maxRecDepth 20000 in
theorem gX7_cast_X7_castReal : GoodIn wsX7_cast (va_wsS RX7 168 yX7_castReal wsX7_castReal) := goodIn_app (goodIn_of _ (by decide +kernel)) ggX7_cast_X7_castReal
set_option maxRecDepth 20000 in
theorem ggX7_cast_X7_castWhole : GoodIn wsX7_cast wsX7_castWhole := goodIn_r _ [84, 6, 7, 4, 8, 85, 86, 11, 87, 88, 89, 30, 90, 61, 62, 63, 55, 56, 57, 41, 42, 43, 44, 45, 58, 59, 60, 64, 65, 66, 67, 68, 69, 70, 71, 72, 73, 74, 75, 49, 50, 51, 18, 19, 20, 21, 22, 76, 77, 78] (by decide +kernel) (by decide +kernel)
set_option maxRecDepth 20000 in
theorem gX7_cast_X7_castWhole : GoodIn wsX7_cast (va_wsS RX7 172 yX7_castWhole wsX7_castWhole) := goodIn_app (goodIn_of _ (by decide +kernel)) ggX7_cast_X7_castWhole
theorem dX7_cast_0 : decode cX7_cast 0 = .ok (.iload_n 1, 1) := by decide +kernel
theorem dX7_cast_1 : decode cX7_cast 1 = .ok (.invokestatic 159, 3) := by decide +kernel
theorem dX7_cast_4 : decode cX7_cast 4 = .ok (.ifCond .eq 10, 3) := by decide +kernel
theorem dX7_cast_7 : decode cX7_cast 7 = .ok (.iload_n 2, 1) := by decide +kernel
theorem dX7_cast_8 : decode cX7_cast 8 = .ok (.invokestatic 159, 3) := by decide +kernel
theorem dX7_cast_11 : decode cX7_cast 11 = .ok (.ifCond .ne 6, 3) := by decide +kernel
theorem dX7_cast_14 : decode cX7_cast 14 = .ok (.bipush (-102), 2) := by decide +kernel
theorem dX7_cast_16 : decode cX7_cast 16 = .ok (.ireturn, 1) := by decide +kernel
theorem dX7_cast_17 : decode cX7_cast 17 = .ok (.iload_n 1, 1) := by decide +kernel
theorem dX7_cast_18 : decode cX7_cast 18 = .ok (.ifCond .eq 8, 3) := by decide +kernel
theorem dX7_cast_21 : decode cX7_cast 21 = .ok (.iload_n 1, 1) := by decide +kernel
theorem dX7_cast_22 : decode cX7_cast 22 = .ok (.iconst 2, 1) := by decide +kernel
theorem dX7_cast_23 : decode cX7_cast 23 = .ok (.if_icmp .ne 9, 3) := by decide +kernel
theorem dX7_cast_26 : decode cX7_cast 26 = .ok (.lload_n 3, 1) := by decide +kernel
theorem dX7_cast_27 : decode cX7_cast 27 = .ok (.l2i, 1) := by decide +kernel
theorem dX7_cast_28 : decode cX7_cast 28 = .ok (.i2l, 1) := by decide +kernel
theorem dX7_cast_29 : decode cX7_cast 29 = .ok (.goto 4, 3) := by decide +kernel
theorem dX7_cast_32 : decode cX7_cast 32 = .ok (.lload_n 3, 1) := by decide +kernel
theorem dX7_cast_33 : decode cX7_cast 33 = .ok (.lstore 5, 2) := by decide +kernel
theorem dX7_cast_35 : decode cX7_cast 35 = .ok (.iload_n 1, 1) := by decide +kernel
theorem dX7_cast_36 : decode cX7_cast 36 = .ok (.invokestatic 162, 3) := by decide +kernel
theorem dX7_cast_39 : decode cX7_cast 39 = .ok (.ifCond .eq 24, 3) := by decide +kernel
theorem dX7_cast_42 : decode cX7_cast 42 = .ok (.iload_n 1, 1) := by decide +kernel
theorem dX7_cast_43 : decode cX7_cast 43 = .ok (.iconst 3, 1) := by decide +kernel
theorem dX7_cast_44 : decode cX7_cast 44 = .ok (.if_icmp .ne 7, 3) := by decide +kernel
theorem dX7_cast_47 : decode cX7_cast 47 = .ok (.iconst 1, 1) := by decide +kernel
theorem dX7_cast_48 : decode cX7_cast 48 = .ok (.goto 4, 3) := by decide +kernel
theorem dX7_cast_51 : decode cX7_cast 51 = .ok (.iconst 0, 1) := by decide +kernel
theorem dX7_cast_52 : decode cX7_cast 52 = .ok (.lload 5, 2) := by decide +kernel
theorem dX7_cast_54 : decode cX7_cast 54 = .ok (.invokestatic 165, 3) := by decide +kernel
theorem dX7_cast_57 : decode cX7_cast 57 = .ok (.ifCond .ne 6, 3) := by decide +kernel
theorem dX7_cast_60 : decode cX7_cast 60 = .ok (.bipush (-102), 2) := by decide +kernel
theorem dX7_cast_62 : decode cX7_cast 62 = .ok (.ireturn, 1) := by decide +kernel
theorem dX7_cast_63 : decode cX7_cast 63 = .ok (.aload_n 0, 1) := by decide +kernel
theorem dX7_cast_64 : decode cX7_cast 64 = .ok (.iload_n 1, 1) := by decide +kernel
theorem dX7_cast_65 : decode cX7_cast 65 = .ok (.invokestatic 162, 3) := by decide +kernel
theorem dX7_cast_68 : decode cX7_cast 68 = .ok (.ifCond .eq 13, 3) := by decide +kernel
theorem dX7_cast_71 : decode cX7_cast 71 = .ok (.iload_n 1, 1) := by decide +kernel
theorem dX7_cast_72 : decode cX7_cast 72 = .ok (.iload_n 2, 1) := by decide +kernel
theorem dX7_cast_73 : decode cX7_cast 73 = .ok (.lload 5, 2) := by decide +kernel
theorem dX7_cast_75 : decode cX7_cast 75 = .ok (.invokestatic 168, 3) := by decide +kernel
theorem dX7_cast_78 : decode cX7_cast 78 = .ok (.goto 9, 3) := by decide +kernel
theorem dX7_cast_81 : decode cX7_cast 81 = .ok (.iload_n 2, 1) := by decide +kernel
theorem dX7_cast_82 : decode cX7_cast 82 = .ok (.lload 5, 2) := by decide +kernel
theorem dX7_cast_84 : decode cX7_cast 84 = .ok (.invokestatic 172, 3) := by decide +kernel
theorem dX7_cast_87 : decode cX7_cast 87 = .ok (.putfield 40, 3) := by decide +kernel
theorem dX7_cast_90 : decode cX7_cast 90 = .ok (.iconst 1, 1) := by decide +kernel
theorem dX7_cast_91 : decode cX7_cast 91 = .ok (.ireturn, 1) := by decide +kernel
set_option maxRecDepth 20000 in
theorem ggX7_left_X4_told : GoodIn wsX7_left wsX4_told := goodIn_r _ [5] (by decide +kernel) (by decide +kernel)
set_option maxRecDepth 20000 in
theorem gX7_left_X4_told : GoodIn wsX7_left (va_wsS RX7 52 yX4_told wsX4_told) := goodIn_app (goodIn_of _ (by decide +kernel)) ggX7_left_X4_told
set_option maxRecDepth 20000 in
theorem ggX7_left_X4_isFit : GoodIn wsX7_left wsX4_isFit := goodIn_r _ [8, 9, 10, 4, 11, 12, 13, 14, 15, 16, 17, 18] (by decide +kernel) (by decide +kernel)
set_option maxRecDepth 20000 in
theorem gX7_left_X4_isFit : GoodIn wsX7_left (va_wsS RX7 58 yX4_isFit wsX4_isFit) := goodIn_app (goodIn_of _ (by decide +kernel)) ggX7_left_X4_isFit
set_option maxRecDepth 20000 in
theorem ggX7_left_X4_isZero : GoodIn wsX7_left wsX4_isZero := goodIn_r _ [21, 9, 10, 4, 11, 12, 13] (by decide +kernel) (by decide +kernel)
set_option maxRecDepth 20000 in
theorem gX7_left_X4_isZero : GoodIn wsX7_left (va_wsS RX7 62 yX4_isZero wsX4_isZero) := goodIn_app (goodIn_of _ (by decide +kernel)) ggX7_left_X4_isZero
set_option maxRecDepth 20000 in
theorem ggX7_left_X4_isNumber : GoodIn wsX7_left wsX4_isNumber := goodIn_r _ [24, 9, 10, 4, 11, 12, 13, 14, 15, 16, 17, 18] (by decide +kernel) (by decide +kernel)
set_option maxRecDepth 20000 in
theorem gX7_left_X4_isNumber : GoodIn wsX7_left (va_wsS RX7 165 yX4_isNumber wsX4_isNumber) := goodIn_app (goodIn_of _ (by decide +kernel)) ggX7_left_X4_isNumber
set_option maxRecDepth 20000 in
theorem ggX7_left_X4_leftOver : GoodIn wsX7_left wsX4_leftOver := goodIn_r _ [27, 28, 29, 30, 31, 32, 33, 34, 35, 36, 4, 37, 38, 39, 40, 9, 10, 11, 12, 13, 41, 42, 43, 44, 45, 46, 47, 48, 49, 50, 51, 52, 53, 54, 55, 56, 57, 58, 59, 60, 61, 62, 63, 64, 65, 66, 14, 15, 16, 17, 18, 67, 68, 69] (by decide +kernel) (by decide +kernel)
set_option maxRecDepth 20000 in
theorem gX7_left_X4_leftOver : GoodIn wsX7_left (va_wsS RX7 148 yX4_leftOver wsX4_leftOver) := goodIn_app (goodIn_of _ (by decide +kernel)) ggX7_left_X4_leftOver
theorem dX7_left_0 : decode cX7_left 0 = .ok (.iload_n 1, 1) := by decide +kernel
theorem dX7_left_1 : decode cX7_left 1 = .ok (.lload_n 2, 1) := by decide +kernel
theorem dX7_left_2 : decode cX7_left 2 = .ok (.invokestatic 52, 3) := by decide +kernel
theorem dX7_left_5 : decode cX7_left 5 = .ok (.lstore 6, 2) := by decide +kernel
theorem dX7_left_7 : decode cX7_left 7 = .ok (.iload_n 1, 1) := by decide +kernel
theorem dX7_left_8 : decode cX7_left 8 = .ok (.lload 4, 2) := by decide +kernel
theorem dX7_left_10 : decode cX7_left 10 = .ok (.invokestatic 52, 3) := by decide +kernel
theorem dX7_left_13 : decode cX7_left 13 = .ok (.lstore 8, 2) := by decide +kernel
theorem dX7_left_15 : decode cX7_left 15 = .ok (.iload_n 1, 1) := by decide +kernel
theorem dX7_left_16 : decode cX7_left 16 = .ok (.lload 6, 2) := by decide +kernel
theorem dX7_left_18 : decode cX7_left 18 = .ok (.invokestatic 58, 3) := by decide +kernel
theorem dX7_left_21 : decode cX7_left 21 = .ok (.ifCond .eq 21, 3) := by decide +kernel
theorem dX7_left_24 : decode cX7_left 24 = .ok (.iload_n 1, 1) := by decide +kernel
theorem dX7_left_25 : decode cX7_left 25 = .ok (.lload 8, 2) := by decide +kernel
theorem dX7_left_27 : decode cX7_left 27 = .ok (.invokestatic 62, 3) := by decide +kernel
theorem dX7_left_30 : decode cX7_left 30 = .ok (.ifCond .ne 12, 3) := by decide +kernel
theorem dX7_left_33 : decode cX7_left 33 = .ok (.iload_n 1, 1) := by decide +kernel
theorem dX7_left_34 : decode cX7_left 34 = .ok (.lload 8, 2) := by decide +kernel
theorem dX7_left_36 : decode cX7_left 36 = .ok (.invokestatic 165, 3) := by decide +kernel
theorem dX7_left_39 : decode cX7_left 39 = .ok (.ifCond .ne 6, 3) := by decide +kernel
theorem dX7_left_42 : decode cX7_left 42 = .ok (.bipush (-102), 2) := by decide +kernel
theorem dX7_left_44 : decode cX7_left 44 = .ok (.ireturn, 1) := by decide +kernel
theorem dX7_left_45 : decode cX7_left 45 = .ok (.aload_n 0, 1) := by decide +kernel
theorem dX7_left_46 : decode cX7_left 46 = .ok (.iload_n 1, 1) := by decide +kernel
theorem dX7_left_47 : decode cX7_left 47 = .ok (.lload 6, 2) := by decide +kernel
theorem dX7_left_49 : decode cX7_left 49 = .ok (.lload 8, 2) := by decide +kernel
theorem dX7_left_51 : decode cX7_left 51 = .ok (.invokestatic 148, 3) := by decide +kernel
theorem dX7_left_54 : decode cX7_left 54 = .ok (.putfield 40, 3) := by decide +kernel
theorem dX7_left_57 : decode cX7_left 57 = .ok (.iconst 1, 1) := by decide +kernel
theorem dX7_left_58 : decode cX7_left 58 = .ok (.ireturn, 1) := by decide +kernel
theorem dX7_failed_0 : decode cX7_failed 0 = .ok (.aload_n 0, 1) := by decide +kernel
theorem dX7_failed_1 : decode cX7_failed 1 = .ok (.getfield 44, 3) := by decide +kernel
theorem dX7_failed_4 : decode cX7_failed 4 = .ok (.ireturn, 1) := by decide +kernel
theorem dX7_about_0 : decode cX7_about 0 = .ok (.iload_n 1, 1) := by decide +kernel
theorem dX7_about_1 : decode cX7_about 1 = .ok (.ifCond .ne 8, 3) := by decide +kernel
theorem dX7_about_4 : decode cX7_about 4 = .ok (.aload_n 0, 1) := by decide +kernel
theorem dX7_about_5 : decode cX7_about 5 = .ok (.getfield 15, 3) := by decide +kernel
theorem dX7_about_8 : decode cX7_about 8 = .ok (.ireturn, 1) := by decide +kernel
theorem dX7_about_9 : decode cX7_about 9 = .ok (.iload_n 1, 1) := by decide +kernel
theorem dX7_about_10 : decode cX7_about 10 = .ok (.iconst 1, 1) := by decide +kernel
theorem dX7_about_11 : decode cX7_about 11 = .ok (.if_icmp .ne 8, 3) := by decide +kernel
theorem dX7_about_14 : decode cX7_about 14 = .ok (.aload_n 0, 1) := by decide +kernel
theorem dX7_about_15 : decode cX7_about 15 = .ok (.getfield 25, 3) := by decide +kernel
theorem dX7_about_18 : decode cX7_about 18 = .ok (.ireturn, 1) := by decide +kernel
theorem dX7_about_19 : decode cX7_about 19 = .ok (.iload_n 1, 1) := by decide +kernel
theorem dX7_about_20 : decode cX7_about 20 = .ok (.iconst 2, 1) := by decide +kernel
theorem dX7_about_21 : decode cX7_about 21 = .ok (.isub, 1) := by decide +kernel
theorem dX7_about_22 : decode cX7_about 22 = .ok (.istore_n 2, 1) := by decide +kernel
theorem dX7_about_23 : decode cX7_about 23 = .ok (.iload_n 2, 1) := by decide +kernel
theorem dX7_about_24 : decode cX7_about 24 = .ok (.ifCond .lt 17, 3) := by decide +kernel
theorem dX7_about_27 : decode cX7_about 27 = .ok (.iload_n 2, 1) := by decide +kernel
theorem dX7_about_28 : decode cX7_about 28 = .ok (.iconst 5, 1) := by decide +kernel
theorem dX7_about_29 : decode cX7_about 29 = .ok (.if_icmp .ge 12, 3) := by decide +kernel
theorem dX7_about_32 : decode cX7_about 32 = .ok (.aload_n 0, 1) := by decide +kernel
theorem dX7_about_33 : decode cX7_about 33 = .ok (.getfield 47, 3) := by decide +kernel
theorem dX7_about_36 : decode cX7_about 36 = .ok (.iload_n 2, 1) := by decide +kernel
theorem dX7_about_37 : decode cX7_about 37 = .ok (.iaload, 1) := by decide +kernel
theorem dX7_about_38 : decode cX7_about 38 = .ok (.goto 5, 3) := by decide +kernel
theorem dX7_about_41 : decode cX7_about 41 = .ok (.bipush (-102), 2) := by decide +kernel
theorem dX7_about_43 : decode cX7_about 43 = .ok (.ireturn, 1) := by decide +kernel
theorem dX7_failWith_0 : decode cX7_failWith 0 = .ok (.aload_n 0, 1) := by decide +kernel
theorem dX7_failWith_1 : decode cX7_failWith 1 = .ok (.iload_n 1, 1) := by decide +kernel
theorem dX7_failWith_2 : decode cX7_failWith 2 = .ok (.putfield 44, 3) := by decide +kernel
theorem dX7_failWith_5 : decode cX7_failWith 5 = .ok (.bipush (-11), 2) := by decide +kernel
theorem dX7_failWith_7 : decode cX7_failWith 7 = .ok (.iload_n 1, 1) := by decide +kernel
theorem dX7_failWith_8 : decode cX7_failWith 8 = .ok (.isub, 1) := by decide +kernel
theorem dX7_failWith_9 : decode cX7_failWith 9 = .ok (.istore_n 2, 1) := by decide +kernel
theorem dX7_failWith_10 : decode cX7_failWith 10 = .ok (.iload_n 2, 1) := by decide +kernel
theorem dX7_failWith_11 : decode cX7_failWith 11 = .ok (.ifCond .lt 18, 3) := by decide +kernel
theorem dX7_failWith_14 : decode cX7_failWith 14 = .ok (.iload_n 2, 1) := by decide +kernel
theorem dX7_failWith_15 : decode cX7_failWith 15 = .ok (.iconst 5, 1) := by decide +kernel
theorem dX7_failWith_16 : decode cX7_failWith 16 = .ok (.if_icmp .ge 13, 3) := by decide +kernel
theorem dX7_failWith_19 : decode cX7_failWith 19 = .ok (.aload_n 0, 1) := by decide +kernel
theorem dX7_failWith_20 : decode cX7_failWith 20 = .ok (.getfield 47, 3) := by decide +kernel
theorem dX7_failWith_23 : decode cX7_failWith 23 = .ok (.iload_n 2, 1) := by decide +kernel
theorem dX7_failWith_24 : decode cX7_failWith 24 = .ok (.dup2, 1) := by decide +kernel
theorem dX7_failWith_25 : decode cX7_failWith 25 = .ok (.iaload, 1) := by decide +kernel
theorem dX7_failWith_26 : decode cX7_failWith 26 = .ok (.iconst 1, 1) := by decide +kernel
theorem dX7_failWith_27 : decode cX7_failWith 27 = .ok (.iadd, 1) := by decide +kernel
theorem dX7_failWith_28 : decode cX7_failWith 28 = .ok (.iastore, 1) := by decide +kernel
theorem dX7_failWith_29 : decode cX7_failWith 29 = .ok (.iload_n 1, 1) := by decide +kernel
theorem dX7_failWith_30 : decode cX7_failWith 30 = .ok (.ireturn, 1) := by decide +kernel
theorem dX7_done_0 : decode cX7_done 0 = .ok (.aload_n 0, 1) := by decide +kernel
theorem dX7_done_1 : decode cX7_done 1 = .ok (.iconst 0, 1) := by decide +kernel
theorem dX7_done_2 : decode cX7_done 2 = .ok (.putfield 44, 3) := by decide +kernel
theorem dX7_done_5 : decode cX7_done 5 = .ok (.iload_n 1, 1) := by decide +kernel
theorem dX7_done_6 : decode cX7_done 6 = .ok (.ireturn, 1) := by decide +kernel
theorem dX7_dialAt_0 : decode cX7_dialAt 0 = .ok (.iload_n 1, 1) := by decide +kernel
theorem dX7_dialAt_1 : decode cX7_dialAt 1 = .ok (.ifCond .lt 20, 3) := by decide +kernel
theorem dX7_dialAt_4 : decode cX7_dialAt 4 = .ok (.iload_n 1, 1) := by decide +kernel
theorem dX7_dialAt_5 : decode cX7_dialAt 5 = .ok (.aload_n 0, 1) := by decide +kernel
theorem dX7_dialAt_6 : decode cX7_dialAt 6 = .ok (.getfield 15, 3) := by decide +kernel
theorem dX7_dialAt_9 : decode cX7_dialAt 9 = .ok (.if_icmp .ge 12, 3) := by decide +kernel
theorem dX7_dialAt_12 : decode cX7_dialAt 12 = .ok (.aload_n 0, 1) := by decide +kernel
theorem dX7_dialAt_13 : decode cX7_dialAt 13 = .ok (.getfield 11, 3) := by decide +kernel
theorem dX7_dialAt_16 : decode cX7_dialAt 16 = .ok (.iload_n 1, 1) := by decide +kernel
theorem dX7_dialAt_17 : decode cX7_dialAt 17 = .ok (.aaload, 1) := by decide +kernel
theorem dX7_dialAt_18 : decode cX7_dialAt 18 = .ok (.goto 4, 3) := by decide +kernel
theorem dX7_dialAt_21 : decode cX7_dialAt 21 = .ok (.aconst_null, 1) := by decide +kernel
theorem dX7_dialAt_22 : decode cX7_dialAt 22 = .ok (.areturn, 1) := by decide +kernel
theorem dX7_driveAt_0 : decode cX7_driveAt 0 = .ok (.iload_n 1, 1) := by decide +kernel
theorem dX7_driveAt_1 : decode cX7_driveAt 1 = .ok (.ifCond .lt 20, 3) := by decide +kernel
theorem dX7_driveAt_4 : decode cX7_driveAt 4 = .ok (.iload_n 1, 1) := by decide +kernel
theorem dX7_driveAt_5 : decode cX7_driveAt 5 = .ok (.aload_n 0, 1) := by decide +kernel
theorem dX7_driveAt_6 : decode cX7_driveAt 6 = .ok (.getfield 25, 3) := by decide +kernel
theorem dX7_driveAt_9 : decode cX7_driveAt 9 = .ok (.if_icmp .ge 12, 3) := by decide +kernel
theorem dX7_driveAt_12 : decode cX7_driveAt 12 = .ok (.aload_n 0, 1) := by decide +kernel
theorem dX7_driveAt_13 : decode cX7_driveAt 13 = .ok (.getfield 21, 3) := by decide +kernel
theorem dX7_driveAt_16 : decode cX7_driveAt 16 = .ok (.iload_n 1, 1) := by decide +kernel
theorem dX7_driveAt_17 : decode cX7_driveAt 17 = .ok (.aaload, 1) := by decide +kernel
theorem dX7_driveAt_18 : decode cX7_driveAt 18 = .ok (.goto 4, 3) := by decide +kernel
theorem dX7_driveAt_21 : decode cX7_driveAt 21 = .ok (.aconst_null, 1) := by decide +kernel
theorem dX7_driveAt_22 : decode cX7_driveAt 22 = .ok (.areturn, 1) := by decide +kernel
theorem dX7_rowAt_0 : decode cX7_rowAt 0 = .ok (.iload_n 1, 1) := by decide +kernel
theorem dX7_rowAt_1 : decode cX7_rowAt 1 = .ok (.ifCond .lt 9, 3) := by decide +kernel
theorem dX7_rowAt_4 : decode cX7_rowAt 4 = .ok (.iload_n 1, 1) := by decide +kernel
theorem dX7_rowAt_5 : decode cX7_rowAt 5 = .ok (.bipush 8, 2) := by decide +kernel
theorem dX7_rowAt_7 : decode cX7_rowAt 7 = .ok (.if_icmp .lt 5, 3) := by decide +kernel
theorem dX7_rowAt_10 : decode cX7_rowAt 10 = .ok (.aconst_null, 1) := by decide +kernel
theorem dX7_rowAt_11 : decode cX7_rowAt 11 = .ok (.areturn, 1) := by decide +kernel
theorem dX7_rowAt_12 : decode cX7_rowAt 12 = .ok (.aload_n 0, 1) := by decide +kernel
theorem dX7_rowAt_13 : decode cX7_rowAt 13 = .ok (.getfield 36, 3) := by decide +kernel
theorem dX7_rowAt_16 : decode cX7_rowAt 16 = .ok (.iconst 2, 1) := by decide +kernel
theorem dX7_rowAt_17 : decode cX7_rowAt 17 = .ok (.iload_n 1, 1) := by decide +kernel
theorem dX7_rowAt_18 : decode cX7_rowAt 18 = .ok (.imul, 1) := by decide +kernel
theorem dX7_rowAt_19 : decode cX7_rowAt 19 = .ok (.iload_n 2, 1) := by decide +kernel
theorem dX7_rowAt_20 : decode cX7_rowAt 20 = .ok (.ifCond .eq 7, 3) := by decide +kernel
theorem dX7_rowAt_23 : decode cX7_rowAt 23 = .ok (.iconst 1, 1) := by decide +kernel
theorem dX7_rowAt_24 : decode cX7_rowAt 24 = .ok (.goto 4, 3) := by decide +kernel
theorem dX7_rowAt_27 : decode cX7_rowAt 27 = .ok (.iconst 0, 1) := by decide +kernel
theorem dX7_rowAt_28 : decode cX7_rowAt 28 = .ok (.iadd, 1) := by decide +kernel
theorem dX7_rowAt_29 : decode cX7_rowAt 29 = .ok (.aaload, 1) := by decide +kernel
theorem dX7_rowAt_30 : decode cX7_rowAt 30 = .ok (.areturn, 1) := by decide +kernel
theorem dX7_isSlot_0 : decode cX7_isSlot 0 = .ok (.iload_n 0, 1) := by decide +kernel
theorem dX7_isSlot_1 : decode cX7_isSlot 1 = .ok (.ifCond .lt 13, 3) := by decide +kernel
theorem dX7_isSlot_4 : decode cX7_isSlot 4 = .ok (.iload_n 0, 1) := by decide +kernel
theorem dX7_isSlot_5 : decode cX7_isSlot 5 = .ok (.bipush 6, 2) := by decide +kernel
theorem dX7_isSlot_7 : decode cX7_isSlot 7 = .ok (.if_icmp .ge 7, 3) := by decide +kernel
theorem dX7_isSlot_10 : decode cX7_isSlot 10 = .ok (.iconst 1, 1) := by decide +kernel
theorem dX7_isSlot_11 : decode cX7_isSlot 11 = .ok (.goto 4, 3) := by decide +kernel
theorem dX7_isSlot_14 : decode cX7_isSlot 14 = .ok (.iconst 0, 1) := by decide +kernel
theorem dX7_isSlot_15 : decode cX7_isSlot 15 = .ok (.ireturn, 1) := by decide +kernel
theorem dX7_isShaft_0 : decode cX7_isShaft 0 = .ok (.iload_n 0, 1) := by decide +kernel
theorem dX7_isShaft_1 : decode cX7_isShaft 1 = .ok (.ifCond .lt 12, 3) := by decide +kernel
theorem dX7_isShaft_4 : decode cX7_isShaft 4 = .ok (.iload_n 0, 1) := by decide +kernel
theorem dX7_isShaft_5 : decode cX7_isShaft 5 = .ok (.iconst 2, 1) := by decide +kernel
theorem dX7_isShaft_6 : decode cX7_isShaft 6 = .ok (.if_icmp .ge 7, 3) := by decide +kernel
theorem dX7_isShaft_9 : decode cX7_isShaft 9 = .ok (.iconst 1, 1) := by decide +kernel
theorem dX7_isShaft_10 : decode cX7_isShaft 10 = .ok (.goto 4, 3) := by decide +kernel
theorem dX7_isShaft_13 : decode cX7_isShaft 13 = .ok (.iconst 0, 1) := by decide +kernel
theorem dX7_isShaft_14 : decode cX7_isShaft 14 = .ok (.ireturn, 1) := by decide +kernel
theorem dX7_isShaftPlace_0 : decode cX7_isShaftPlace 0 = .ok (.iload_n 0, 1) := by decide +kernel
theorem dX7_isShaftPlace_1 : decode cX7_isShaftPlace 1 = .ok (.ifCond .lt 12, 3) := by decide +kernel
theorem dX7_isShaftPlace_4 : decode cX7_isShaftPlace 4 = .ok (.iload_n 0, 1) := by decide +kernel
theorem dX7_isShaftPlace_5 : decode cX7_isShaftPlace 5 = .ok (.iconst 4, 1) := by decide +kernel
theorem dX7_isShaftPlace_6 : decode cX7_isShaftPlace 6 = .ok (.if_icmp .ge 7, 3) := by decide +kernel
theorem dX7_isShaftPlace_9 : decode cX7_isShaftPlace 9 = .ok (.iconst 1, 1) := by decide +kernel
theorem dX7_isShaftPlace_10 : decode cX7_isShaftPlace 10 = .ok (.goto 4, 3) := by decide +kernel
theorem dX7_isShaftPlace_13 : decode cX7_isShaftPlace 13 = .ok (.iconst 0, 1) := by decide +kernel
theorem dX7_isShaftPlace_14 : decode cX7_isShaftPlace 14 = .ok (.ireturn, 1) := by decide +kernel
theorem dX7_isKind_0 : decode cX7_isKind 0 = .ok (.iload_n 0, 1) := by decide +kernel
theorem dX7_isKind_1 : decode cX7_isKind 1 = .ok (.ifCond .lt 12, 3) := by decide +kernel
theorem dX7_isKind_4 : decode cX7_isKind 4 = .ok (.iload_n 0, 1) := by decide +kernel
theorem dX7_isKind_5 : decode cX7_isKind 5 = .ok (.iconst 3, 1) := by decide +kernel
theorem dX7_isKind_6 : decode cX7_isKind 6 = .ok (.if_icmp .gt 7, 3) := by decide +kernel
theorem dX7_isKind_9 : decode cX7_isKind 9 = .ok (.iconst 1, 1) := by decide +kernel
theorem dX7_isKind_10 : decode cX7_isKind 10 = .ok (.goto 4, 3) := by decide +kernel
theorem dX7_isKind_13 : decode cX7_isKind 13 = .ok (.iconst 0, 1) := by decide +kernel
theorem dX7_isKind_14 : decode cX7_isKind 14 = .ok (.ireturn, 1) := by decide +kernel
theorem dX7_isReal_0 : decode cX7_isReal 0 = .ok (.iload_n 0, 1) := by decide +kernel
theorem dX7_isReal_1 : decode cX7_isReal 1 = .ok (.iconst 2, 1) := by decide +kernel
theorem dX7_isReal_2 : decode cX7_isReal 2 = .ok (.if_icmp .eq 8, 3) := by decide +kernel
theorem dX7_isReal_5 : decode cX7_isReal 5 = .ok (.iload_n 0, 1) := by decide +kernel
theorem dX7_isReal_6 : decode cX7_isReal 6 = .ok (.iconst 3, 1) := by decide +kernel
theorem dX7_isReal_7 : decode cX7_isReal 7 = .ok (.if_icmp .ne 7, 3) := by decide +kernel
theorem dX7_isReal_10 : decode cX7_isReal 10 = .ok (.iconst 1, 1) := by decide +kernel
theorem dX7_isReal_11 : decode cX7_isReal 11 = .ok (.goto 4, 3) := by decide +kernel
theorem dX7_isReal_14 : decode cX7_isReal 14 = .ok (.iconst 0, 1) := by decide +kernel
theorem dX7_isReal_15 : decode cX7_isReal 15 = .ok (.ireturn, 1) := by decide +kernel
set_option maxRecDepth 20000 in
theorem ggX7_newDrive_X6_init : GoodIn wsX7_newDrive wsX6_init := goodIn_r _ [12, 13, 14, 15, 16, 17, 18, 19, 20, 21, 22, 35, 36, 37, 38, 39, 40, 41, 42, 32, 33, 34] (by decide +kernel) (by decide +kernel)
set_option maxRecDepth 20000 in
theorem gX7_newDrive_X6_init : GoodIn wsX7_newDrive (wsX6_init) := ggX7_newDrive_X6_init
set_option maxRecDepth 20000 in
theorem ggX7_newDrive_X0_init : GoodIn wsX7_newDrive wsX0_init := goodIn_r _ [25, 26, 27, 14, 15, 16, 17, 18, 19, 20, 21, 22, 35, 36, 37, 38, 39, 40, 41, 42, 32, 33, 34] (by decide +kernel) (by decide +kernel)
set_option maxRecDepth 20000 in
theorem gX7_newDrive_X0_init : GoodIn wsX7_newDrive (wsX0_init) := ggX7_newDrive_X0_init
set_option maxRecDepth 20000 in
theorem ggX7_newDrive_X3_init : GoodIn wsX7_newDrive wsX3_init := goodIn_r _ [30, 31, 24, 6, 25, 26, 27, 14, 15, 16, 17, 18, 19, 20, 21, 22, 35, 36, 37, 38, 39, 40, 41, 42, 32, 33, 34] (by decide +kernel) (by decide +kernel)
set_option maxRecDepth 20000 in
theorem gX7_newDrive_X3_init : GoodIn wsX7_newDrive (wsX3_init) := ggX7_newDrive_X3_init
theorem dX7_newDrive_0 : decode cX7_newDrive 0 = .ok (.iload_n 0, 1) := by decide +kernel
theorem dX7_newDrive_1 : decode cX7_newDrive 1 = .ok (.ifCond .ne 13, 3) := by decide +kernel
theorem dX7_newDrive_4 : decode cX7_newDrive 4 = .ok (.new 176, 3) := by decide +kernel
theorem dX7_newDrive_7 : decode cX7_newDrive 7 = .ok (.dup, 1) := by decide +kernel
theorem dX7_newDrive_8 : decode cX7_newDrive 8 = .ok (.iload_n 1, 1) := by decide +kernel
theorem dX7_newDrive_9 : decode cX7_newDrive 9 = .ok (.lload_n 2, 1) := by decide +kernel
theorem dX7_newDrive_10 : decode cX7_newDrive 10 = .ok (.invokespecial 178, 3) := by decide +kernel
theorem dX7_newDrive_13 : decode cX7_newDrive 13 = .ok (.areturn, 1) := by decide +kernel
theorem dX7_newDrive_14 : decode cX7_newDrive 14 = .ok (.iload_n 0, 1) := by decide +kernel
theorem dX7_newDrive_15 : decode cX7_newDrive 15 = .ok (.iconst 1, 1) := by decide +kernel
theorem dX7_newDrive_16 : decode cX7_newDrive 16 = .ok (.if_icmp .ne 15, 3) := by decide +kernel
theorem dX7_newDrive_19 : decode cX7_newDrive 19 = .ok (.new 112, 3) := by decide +kernel
theorem dX7_newDrive_22 : decode cX7_newDrive 22 = .ok (.dup, 1) := by decide +kernel
theorem dX7_newDrive_23 : decode cX7_newDrive 23 = .ok (.iload_n 1, 1) := by decide +kernel
theorem dX7_newDrive_24 : decode cX7_newDrive 24 = .ok (.lload_n 2, 1) := by decide +kernel
theorem dX7_newDrive_25 : decode cX7_newDrive 25 = .ok (.invokespecial 181, 3) := by decide +kernel
theorem dX7_newDrive_28 : decode cX7_newDrive 28 = .ok (.goto 12, 3) := by decide +kernel
theorem dX7_newDrive_31 : decode cX7_newDrive 31 = .ok (.new 182, 3) := by decide +kernel
theorem dX7_newDrive_34 : decode cX7_newDrive 34 = .ok (.dup, 1) := by decide +kernel
theorem dX7_newDrive_35 : decode cX7_newDrive 35 = .ok (.iload_n 1, 1) := by decide +kernel
theorem dX7_newDrive_36 : decode cX7_newDrive 36 = .ok (.lload_n 2, 1) := by decide +kernel
theorem dX7_newDrive_37 : decode cX7_newDrive 37 = .ok (.invokespecial 184, 3) := by decide +kernel
theorem dX7_newDrive_40 : decode cX7_newDrive 40 = .ok (.areturn, 1) := by decide +kernel
set_option maxRecDepth 20000 in
theorem ggX7_castReal_X7_isReal : GoodIn wsX7_castReal wsX7_isReal := goodIn_r _ [13] (by decide +kernel) (by decide +kernel)
set_option maxRecDepth 20000 in
theorem gX7_castReal_X7_isReal : GoodIn wsX7_castReal (va_wsS RX7 162 yX7_isReal wsX7_isReal) := goodIn_app (goodIn_of _ (by decide +kernel)) ggX7_castReal_X7_isReal
set_option maxRecDepth 20000 in
theorem ggX7_castReal_X4_ofReal : GoodIn wsX7_castReal wsX4_ofReal := goodIn_r _ [17, 18, 19, 16, 20, 21, 22, 23, 24, 25, 26, 27, 28, 29, 30, 31, 32, 33, 34, 35, 36, 37, 38, 39, 40, 41, 42, 43, 44, 45, 46, 5, 47, 48, 49, 50, 51, 52, 53, 54, 55, 56, 57, 58, 59, 60, 61, 62, 63, 64, 65, 66, 67, 68] (by decide +kernel) (by decide +kernel)
set_option maxRecDepth 20000 in
theorem gX7_castReal_X4_ofReal : GoodIn wsX7_castReal (va_wsS RX7 144 yX4_ofReal wsX4_ofReal) := goodIn_app (goodIn_of _ (by decide +kernel)) ggX7_castReal_X4_ofReal
set_option maxRecDepth 20000 in
theorem ggX7_castReal_X4_cutToLong : GoodIn wsX7_castReal wsX4_cutToLong := goodIn_r _ [71, 34, 24, 36, 37, 16, 38, 39, 40, 41, 21, 22, 23, 25, 42, 43, 44, 45, 46, 5, 47, 48, 49, 50, 54, 55, 56, 57, 58, 59, 60, 61, 62, 63, 64, 65] (by decide +kernel) (by decide +kernel)
set_option maxRecDepth 20000 in
theorem gX7_castReal_X4_cutToLong : GoodIn wsX7_castReal (va_wsS RX7 185 yX4_cutToLong wsX4_cutToLong) := goodIn_app (goodIn_of _ (by decide +kernel)) ggX7_castReal_X4_cutToLong
theorem dX7_castReal_0 : decode cX7_castReal 0 = .ok (.iload_n 1, 1) := by decide +kernel
theorem dX7_castReal_1 : decode cX7_castReal 1 = .ok (.invokestatic 162, 3) := by decide +kernel
theorem dX7_castReal_4 : decode cX7_castReal 4 = .ok (.ifCond .eq 28, 3) := by decide +kernel
theorem dX7_castReal_7 : decode cX7_castReal 7 = .ok (.iload_n 0, 1) := by decide +kernel
theorem dX7_castReal_8 : decode cX7_castReal 8 = .ok (.iconst 3, 1) := by decide +kernel
theorem dX7_castReal_9 : decode cX7_castReal 9 = .ok (.if_icmp .ne 7, 3) := by decide +kernel
theorem dX7_castReal_12 : decode cX7_castReal 12 = .ok (.iconst 1, 1) := by decide +kernel
theorem dX7_castReal_13 : decode cX7_castReal 13 = .ok (.goto 4, 3) := by decide +kernel
theorem dX7_castReal_16 : decode cX7_castReal 16 = .ok (.iconst 0, 1) := by decide +kernel
theorem dX7_castReal_17 : decode cX7_castReal 17 = .ok (.iload_n 1, 1) := by decide +kernel
theorem dX7_castReal_18 : decode cX7_castReal 18 = .ok (.iconst 3, 1) := by decide +kernel
theorem dX7_castReal_19 : decode cX7_castReal 19 = .ok (.if_icmp .ne 7, 3) := by decide +kernel
theorem dX7_castReal_22 : decode cX7_castReal 22 = .ok (.iconst 1, 1) := by decide +kernel
theorem dX7_castReal_23 : decode cX7_castReal 23 = .ok (.goto 4, 3) := by decide +kernel
theorem dX7_castReal_26 : decode cX7_castReal 26 = .ok (.iconst 0, 1) := by decide +kernel
theorem dX7_castReal_27 : decode cX7_castReal 27 = .ok (.lload_n 2, 1) := by decide +kernel
theorem dX7_castReal_28 : decode cX7_castReal 28 = .ok (.invokestatic 144, 3) := by decide +kernel
theorem dX7_castReal_31 : decode cX7_castReal 31 = .ok (.lreturn, 1) := by decide +kernel
theorem dX7_castReal_32 : decode cX7_castReal 32 = .ok (.iload_n 0, 1) := by decide +kernel
theorem dX7_castReal_33 : decode cX7_castReal 33 = .ok (.iconst 3, 1) := by decide +kernel
theorem dX7_castReal_34 : decode cX7_castReal 34 = .ok (.if_icmp .ne 7, 3) := by decide +kernel
theorem dX7_castReal_37 : decode cX7_castReal 37 = .ok (.iconst 1, 1) := by decide +kernel
theorem dX7_castReal_38 : decode cX7_castReal 38 = .ok (.goto 4, 3) := by decide +kernel
theorem dX7_castReal_41 : decode cX7_castReal 41 = .ok (.iconst 0, 1) := by decide +kernel
theorem dX7_castReal_42 : decode cX7_castReal 42 = .ok (.lload_n 2, 1) := by decide +kernel
theorem dX7_castReal_43 : decode cX7_castReal 43 = .ok (.invokestatic 185, 3) := by decide +kernel
theorem dX7_castReal_46 : decode cX7_castReal 46 = .ok (.lstore 4, 2) := by decide +kernel
theorem dX7_castReal_48 : decode cX7_castReal 48 = .ok (.iload_n 1, 1) := by decide +kernel
theorem dX7_castReal_49 : decode cX7_castReal 49 = .ok (.iconst 1, 1) := by decide +kernel
theorem dX7_castReal_50 : decode cX7_castReal 50 = .ok (.if_icmp .ne 6, 3) := by decide +kernel
theorem dX7_castReal_53 : decode cX7_castReal 53 = .ok (.lload 4, 2) := by decide +kernel
theorem dX7_castReal_55 : decode cX7_castReal 55 = .ok (.lreturn, 1) := by decide +kernel
theorem dX7_castReal_56 : decode cX7_castReal 56 = .ok (.ldc2_w 190, 3) := by decide +kernel
theorem dX7_castReal_59 : decode cX7_castReal 59 = .ok (.ldc2_w 192, 3) := by decide +kernel
theorem dX7_castReal_62 : decode cX7_castReal 62 = .ok (.lload 4, 2) := by decide +kernel
theorem dX7_castReal_64 : decode cX7_castReal 64 = .ok (.invokestatic 194, 3) := by decide +kernel
theorem dX7_castReal_67 : decode cX7_castReal 67 = .ok (.invokestatic 200, 3) := by decide +kernel
theorem dX7_castReal_70 : decode cX7_castReal 70 = .ok (.lreturn, 1) := by decide +kernel
set_option maxRecDepth 20000 in
theorem ggX7_castWhole_X7_isReal : GoodIn wsX7_castWhole wsX7_isReal := goodIn_r _ [4] (by decide +kernel) (by decide +kernel)
set_option maxRecDepth 20000 in
theorem gX7_castWhole_X7_isReal : GoodIn wsX7_castWhole (va_wsS RX7 162 yX7_isReal wsX7_isReal) := goodIn_app (goodIn_of _ (by decide +kernel)) ggX7_castWhole_X7_isReal
set_option maxRecDepth 20000 in
theorem ggX7_castWhole_X4_ofLong : GoodIn wsX7_castWhole wsX4_ofLong := goodIn_r _ [8, 9, 10, 11, 12, 13, 14, 7, 15, 16, 17, 18, 19, 20, 21, 22, 23, 24, 25, 26, 27, 28, 29, 30, 31, 32, 33, 34, 35, 36, 37, 38, 39, 40, 41, 42, 43, 44, 45, 46, 47, 48, 49] (by decide +kernel) (by decide +kernel)
set_option maxRecDepth 20000 in
theorem gX7_castWhole_X4_ofLong : GoodIn wsX7_castWhole (va_wsS RX7 203 yX4_ofLong wsX4_ofLong) := goodIn_app (goodIn_of _ (by decide +kernel)) ggX7_castWhole_X4_ofLong
theorem dX7_castWhole_0 : decode cX7_castWhole 0 = .ok (.iload_n 0, 1) := by decide +kernel
theorem dX7_castWhole_1 : decode cX7_castWhole 1 = .ok (.invokestatic 162, 3) := by decide +kernel
theorem dX7_castWhole_4 : decode cX7_castWhole 4 = .ok (.ifCond .eq 18, 3) := by decide +kernel
theorem dX7_castWhole_7 : decode cX7_castWhole 7 = .ok (.iload_n 0, 1) := by decide +kernel
theorem dX7_castWhole_8 : decode cX7_castWhole 8 = .ok (.iconst 3, 1) := by decide +kernel
theorem dX7_castWhole_9 : decode cX7_castWhole 9 = .ok (.if_icmp .ne 7, 3) := by decide +kernel
theorem dX7_castWhole_12 : decode cX7_castWhole 12 = .ok (.iconst 1, 1) := by decide +kernel
theorem dX7_castWhole_13 : decode cX7_castWhole 13 = .ok (.goto 4, 3) := by decide +kernel
theorem dX7_castWhole_16 : decode cX7_castWhole 16 = .ok (.iconst 0, 1) := by decide +kernel
theorem dX7_castWhole_17 : decode cX7_castWhole 17 = .ok (.lload_n 1, 1) := by decide +kernel
theorem dX7_castWhole_18 : decode cX7_castWhole 18 = .ok (.invokestatic 203, 3) := by decide +kernel
theorem dX7_castWhole_21 : decode cX7_castWhole 21 = .ok (.lreturn, 1) := by decide +kernel
theorem dX7_castWhole_22 : decode cX7_castWhole 22 = .ok (.iload_n 0, 1) := by decide +kernel
theorem dX7_castWhole_23 : decode cX7_castWhole 23 = .ok (.ifCond .ne 9, 3) := by decide +kernel
theorem dX7_castWhole_26 : decode cX7_castWhole 26 = .ok (.lload_n 1, 1) := by decide +kernel
theorem dX7_castWhole_27 : decode cX7_castWhole 27 = .ok (.l2i, 1) := by decide +kernel
theorem dX7_castWhole_28 : decode cX7_castWhole 28 = .ok (.i2l, 1) := by decide +kernel
theorem dX7_castWhole_29 : decode cX7_castWhole 29 = .ok (.goto 4, 3) := by decide +kernel
theorem dX7_castWhole_32 : decode cX7_castWhole 32 = .ok (.lload_n 1, 1) := by decide +kernel
theorem dX7_castWhole_33 : decode cX7_castWhole 33 = .ok (.lreturn, 1) := by decide +kernel
end
section
theorem dX8_init_0 : decode cX8_init 0 = .ok (.aload_n 0, 1) := by decide +kernel
theorem dX8_init_1 : decode cX8_init 1 = .ok (.invokespecial 1, 3) := by decide +kernel
theorem dX8_init_4 : decode cX8_init 4 = .ok (.aload_n 0, 1) := by decide +kernel
theorem dX8_init_5 : decode cX8_init 5 = .ok (.bipush 12, 2) := by decide +kernel
theorem dX8_init_7 : decode cX8_init 7 = .ok (.newarray .boolean, 2) := by decide +kernel
theorem dX8_init_9 : decode cX8_init 9 = .ok (.putfield 7, 3) := by decide +kernel
theorem dX8_init_12 : decode cX8_init 12 = .ok (.aload_n 0, 1) := by decide +kernel
theorem dX8_init_13 : decode cX8_init 13 = .ok (.bipush 12, 2) := by decide +kernel
theorem dX8_init_15 : decode cX8_init 15 = .ok (.newarray .float, 2) := by decide +kernel
theorem dX8_init_17 : decode cX8_init 17 = .ok (.putfield 13, 3) := by decide +kernel
theorem dX8_init_20 : decode cX8_init 20 = .ok (.aload_n 0, 1) := by decide +kernel
theorem dX8_init_21 : decode cX8_init 21 = .ok (.bipush 12, 2) := by decide +kernel
theorem dX8_init_23 : decode cX8_init 23 = .ok (.newarray .float, 2) := by decide +kernel
theorem dX8_init_25 : decode cX8_init 25 = .ok (.putfield 17, 3) := by decide +kernel
theorem dX8_init_28 : decode cX8_init 28 = .ok (.aload_n 0, 1) := by decide +kernel
theorem dX8_init_29 : decode cX8_init 29 = .ok (.bipush 12, 2) := by decide +kernel
theorem dX8_init_31 : decode cX8_init 31 = .ok (.newarray .double, 2) := by decide +kernel
theorem dX8_init_33 : decode cX8_init 33 = .ok (.putfield 20, 3) := by decide +kernel
theorem dX8_init_36 : decode cX8_init 36 = .ok (.aload_n 0, 1) := by decide +kernel
theorem dX8_init_37 : decode cX8_init 37 = .ok (.bipush 12, 2) := by decide +kernel
theorem dX8_init_39 : decode cX8_init 39 = .ok (.newarray .double, 2) := by decide +kernel
theorem dX8_init_41 : decode cX8_init 41 = .ok (.putfield 24, 3) := by decide +kernel
theorem dX8_init_44 : decode cX8_init 44 = .ok (.aload_n 0, 1) := by decide +kernel
theorem dX8_init_45 : decode cX8_init 45 = .ok (.bipush 12, 2) := by decide +kernel
theorem dX8_init_47 : decode cX8_init 47 = .ok (.newarray .long, 2) := by decide +kernel
theorem dX8_init_49 : decode cX8_init 49 = .ok (.putfield 27, 3) := by decide +kernel
theorem dX8_init_52 : decode cX8_init 52 = .ok (.aload_n 0, 1) := by decide +kernel
theorem dX8_init_53 : decode cX8_init 53 = .ok (.bipush 20, 2) := by decide +kernel
theorem dX8_init_55 : decode cX8_init 55 = .ok (.newarray .int, 2) := by decide +kernel
theorem dX8_init_57 : decode cX8_init 57 = .ok (.putfield 31, 3) := by decide +kernel
theorem dX8_init_60 : decode cX8_init 60 = .ok (.aload_n 0, 1) := by decide +kernel
theorem dX8_init_61 : decode cX8_init 61 = .ok (.bipush 20, 2) := by decide +kernel
theorem dX8_init_63 : decode cX8_init 63 = .ok (.newarray .double, 2) := by decide +kernel
theorem dX8_init_65 : decode cX8_init 65 = .ok (.putfield 35, 3) := by decide +kernel
theorem dX8_init_68 : decode cX8_init 68 = .ok (.aload_n 0, 1) := by decide +kernel
theorem dX8_init_69 : decode cX8_init 69 = .ok (.bipush 20, 2) := by decide +kernel
theorem dX8_init_71 : decode cX8_init 71 = .ok (.newarray .int, 2) := by decide +kernel
theorem dX8_init_73 : decode cX8_init 73 = .ok (.putfield 38, 3) := by decide +kernel
theorem dX8_init_76 : decode cX8_init 76 = .ok (.aload_n 0, 1) := by decide +kernel
theorem dX8_init_77 : decode cX8_init 77 = .ok (.bipush 20, 2) := by decide +kernel
theorem dX8_init_79 : decode cX8_init 79 = .ok (.newarray .int, 2) := by decide +kernel
theorem dX8_init_81 : decode cX8_init 81 = .ok (.putfield 41, 3) := by decide +kernel
theorem dX8_init_84 : decode cX8_init 84 = .ok (.aload_n 0, 1) := by decide +kernel
theorem dX8_init_85 : decode cX8_init 85 = .ok (.bipush 6, 2) := by decide +kernel
theorem dX8_init_87 : decode cX8_init 87 = .ok (.newarray .int, 2) := by decide +kernel
theorem dX8_init_89 : decode cX8_init 89 = .ok (.dup, 1) := by decide +kernel
theorem dX8_init_90 : decode cX8_init 90 = .ok (.iconst 0, 1) := by decide +kernel
theorem dX8_init_91 : decode cX8_init 91 = .ok (.iconst (-1), 1) := by decide +kernel
theorem dX8_init_92 : decode cX8_init 92 = .ok (.iastore, 1) := by decide +kernel
theorem dX8_init_93 : decode cX8_init 93 = .ok (.dup, 1) := by decide +kernel
theorem dX8_init_94 : decode cX8_init 94 = .ok (.iconst 1, 1) := by decide +kernel
theorem dX8_init_95 : decode cX8_init 95 = .ok (.iconst (-1), 1) := by decide +kernel
theorem dX8_init_96 : decode cX8_init 96 = .ok (.iastore, 1) := by decide +kernel
theorem dX8_init_97 : decode cX8_init 97 = .ok (.dup, 1) := by decide +kernel
theorem dX8_init_98 : decode cX8_init 98 = .ok (.iconst 2, 1) := by decide +kernel
theorem dX8_init_99 : decode cX8_init 99 = .ok (.iconst (-1), 1) := by decide +kernel
theorem dX8_init_100 : decode cX8_init 100 = .ok (.iastore, 1) := by decide +kernel
theorem dX8_init_101 : decode cX8_init 101 = .ok (.dup, 1) := by decide +kernel
theorem dX8_init_102 : decode cX8_init 102 = .ok (.iconst 3, 1) := by decide +kernel
theorem dX8_init_103 : decode cX8_init 103 = .ok (.iconst (-1), 1) := by decide +kernel
theorem dX8_init_104 : decode cX8_init 104 = .ok (.iastore, 1) := by decide +kernel
theorem dX8_init_105 : decode cX8_init 105 = .ok (.dup, 1) := by decide +kernel
theorem dX8_init_106 : decode cX8_init 106 = .ok (.iconst 4, 1) := by decide +kernel
theorem dX8_init_107 : decode cX8_init 107 = .ok (.iconst (-1), 1) := by decide +kernel
theorem dX8_init_108 : decode cX8_init 108 = .ok (.iastore, 1) := by decide +kernel
theorem dX8_init_109 : decode cX8_init 109 = .ok (.dup, 1) := by decide +kernel
theorem dX8_init_110 : decode cX8_init 110 = .ok (.iconst 5, 1) := by decide +kernel
theorem dX8_init_111 : decode cX8_init 111 = .ok (.iconst (-1), 1) := by decide +kernel
theorem dX8_init_112 : decode cX8_init 112 = .ok (.iastore, 1) := by decide +kernel
theorem dX8_init_113 : decode cX8_init 113 = .ok (.putfield 44, 3) := by decide +kernel
theorem dX8_init_116 : decode cX8_init 116 = .ok (.aload_n 0, 1) := by decide +kernel
theorem dX8_init_117 : decode cX8_init 117 = .ok (.bipush 8, 2) := by decide +kernel
theorem dX8_init_119 : decode cX8_init 119 = .ok (.newarray .int, 2) := by decide +kernel
theorem dX8_init_121 : decode cX8_init 121 = .ok (.dup, 1) := by decide +kernel
theorem dX8_init_122 : decode cX8_init 122 = .ok (.iconst 0, 1) := by decide +kernel
theorem dX8_init_123 : decode cX8_init 123 = .ok (.iconst (-1), 1) := by decide +kernel
theorem dX8_init_124 : decode cX8_init 124 = .ok (.iastore, 1) := by decide +kernel
theorem dX8_init_125 : decode cX8_init 125 = .ok (.dup, 1) := by decide +kernel
theorem dX8_init_126 : decode cX8_init 126 = .ok (.iconst 1, 1) := by decide +kernel
theorem dX8_init_127 : decode cX8_init 127 = .ok (.iconst (-1), 1) := by decide +kernel
theorem dX8_init_128 : decode cX8_init 128 = .ok (.iastore, 1) := by decide +kernel
theorem dX8_init_129 : decode cX8_init 129 = .ok (.dup, 1) := by decide +kernel
theorem dX8_init_130 : decode cX8_init 130 = .ok (.iconst 2, 1) := by decide +kernel
theorem dX8_init_131 : decode cX8_init 131 = .ok (.iconst (-1), 1) := by decide +kernel
theorem dX8_init_132 : decode cX8_init 132 = .ok (.iastore, 1) := by decide +kernel
theorem dX8_init_133 : decode cX8_init 133 = .ok (.dup, 1) := by decide +kernel
theorem dX8_init_134 : decode cX8_init 134 = .ok (.iconst 3, 1) := by decide +kernel
theorem dX8_init_135 : decode cX8_init 135 = .ok (.iconst (-1), 1) := by decide +kernel
theorem dX8_init_136 : decode cX8_init 136 = .ok (.iastore, 1) := by decide +kernel
theorem dX8_init_137 : decode cX8_init 137 = .ok (.dup, 1) := by decide +kernel
theorem dX8_init_138 : decode cX8_init 138 = .ok (.iconst 4, 1) := by decide +kernel
theorem dX8_init_139 : decode cX8_init 139 = .ok (.iconst (-1), 1) := by decide +kernel
theorem dX8_init_140 : decode cX8_init 140 = .ok (.iastore, 1) := by decide +kernel
theorem dX8_init_141 : decode cX8_init 141 = .ok (.dup, 1) := by decide +kernel
theorem dX8_init_142 : decode cX8_init 142 = .ok (.iconst 5, 1) := by decide +kernel
theorem dX8_init_143 : decode cX8_init 143 = .ok (.iconst (-1), 1) := by decide +kernel
theorem dX8_init_144 : decode cX8_init 144 = .ok (.iastore, 1) := by decide +kernel
theorem dX8_init_145 : decode cX8_init 145 = .ok (.dup, 1) := by decide +kernel
theorem dX8_init_146 : decode cX8_init 146 = .ok (.bipush 6, 2) := by decide +kernel
theorem dX8_init_148 : decode cX8_init 148 = .ok (.iconst (-1), 1) := by decide +kernel
theorem dX8_init_149 : decode cX8_init 149 = .ok (.iastore, 1) := by decide +kernel
theorem dX8_init_150 : decode cX8_init 150 = .ok (.dup, 1) := by decide +kernel
theorem dX8_init_151 : decode cX8_init 151 = .ok (.bipush 7, 2) := by decide +kernel
theorem dX8_init_153 : decode cX8_init 153 = .ok (.iconst (-1), 1) := by decide +kernel
theorem dX8_init_154 : decode cX8_init 154 = .ok (.iastore, 1) := by decide +kernel
theorem dX8_init_155 : decode cX8_init 155 = .ok (.putfield 47, 3) := by decide +kernel
theorem dX8_init_158 : decode cX8_init 158 = .ok (.aload_n 0, 1) := by decide +kernel
theorem dX8_init_159 : decode cX8_init 159 = .ok (.bipush 16, 2) := by decide +kernel
theorem dX8_init_161 : decode cX8_init 161 = .ok (.newarray .int, 2) := by decide +kernel
theorem dX8_init_163 : decode cX8_init 163 = .ok (.dup, 1) := by decide +kernel
theorem dX8_init_164 : decode cX8_init 164 = .ok (.iconst 0, 1) := by decide +kernel
theorem dX8_init_165 : decode cX8_init 165 = .ok (.iconst (-1), 1) := by decide +kernel
theorem dX8_init_166 : decode cX8_init 166 = .ok (.iastore, 1) := by decide +kernel
theorem dX8_init_167 : decode cX8_init 167 = .ok (.dup, 1) := by decide +kernel
theorem dX8_init_168 : decode cX8_init 168 = .ok (.iconst 1, 1) := by decide +kernel
theorem dX8_init_169 : decode cX8_init 169 = .ok (.iconst (-1), 1) := by decide +kernel
theorem dX8_init_170 : decode cX8_init 170 = .ok (.iastore, 1) := by decide +kernel
theorem dX8_init_171 : decode cX8_init 171 = .ok (.dup, 1) := by decide +kernel
theorem dX8_init_172 : decode cX8_init 172 = .ok (.iconst 2, 1) := by decide +kernel
theorem dX8_init_173 : decode cX8_init 173 = .ok (.iconst (-1), 1) := by decide +kernel
theorem dX8_init_174 : decode cX8_init 174 = .ok (.iastore, 1) := by decide +kernel
theorem dX8_init_175 : decode cX8_init 175 = .ok (.dup, 1) := by decide +kernel
theorem dX8_init_176 : decode cX8_init 176 = .ok (.iconst 3, 1) := by decide +kernel
theorem dX8_init_177 : decode cX8_init 177 = .ok (.iconst (-1), 1) := by decide +kernel
theorem dX8_init_178 : decode cX8_init 178 = .ok (.iastore, 1) := by decide +kernel
theorem dX8_init_179 : decode cX8_init 179 = .ok (.dup, 1) := by decide +kernel
theorem dX8_init_180 : decode cX8_init 180 = .ok (.iconst 4, 1) := by decide +kernel
theorem dX8_init_181 : decode cX8_init 181 = .ok (.iconst (-1), 1) := by decide +kernel
theorem dX8_init_182 : decode cX8_init 182 = .ok (.iastore, 1) := by decide +kernel
theorem dX8_init_183 : decode cX8_init 183 = .ok (.dup, 1) := by decide +kernel
theorem dX8_init_184 : decode cX8_init 184 = .ok (.iconst 5, 1) := by decide +kernel
theorem dX8_init_185 : decode cX8_init 185 = .ok (.iconst (-1), 1) := by decide +kernel
theorem dX8_init_186 : decode cX8_init 186 = .ok (.iastore, 1) := by decide +kernel
theorem dX8_init_187 : decode cX8_init 187 = .ok (.dup, 1) := by decide +kernel
theorem dX8_init_188 : decode cX8_init 188 = .ok (.bipush 6, 2) := by decide +kernel
theorem dX8_init_190 : decode cX8_init 190 = .ok (.iconst (-1), 1) := by decide +kernel
theorem dX8_init_191 : decode cX8_init 191 = .ok (.iastore, 1) := by decide +kernel
theorem dX8_init_192 : decode cX8_init 192 = .ok (.dup, 1) := by decide +kernel
theorem dX8_init_193 : decode cX8_init 193 = .ok (.bipush 7, 2) := by decide +kernel
theorem dX8_init_195 : decode cX8_init 195 = .ok (.iconst (-1), 1) := by decide +kernel
theorem dX8_init_196 : decode cX8_init 196 = .ok (.iastore, 1) := by decide +kernel
theorem dX8_init_197 : decode cX8_init 197 = .ok (.dup, 1) := by decide +kernel
theorem dX8_init_198 : decode cX8_init 198 = .ok (.bipush 8, 2) := by decide +kernel
theorem dX8_init_200 : decode cX8_init 200 = .ok (.iconst (-1), 1) := by decide +kernel
theorem dX8_init_201 : decode cX8_init 201 = .ok (.iastore, 1) := by decide +kernel
theorem dX8_init_202 : decode cX8_init 202 = .ok (.dup, 1) := by decide +kernel
theorem dX8_init_203 : decode cX8_init 203 = .ok (.bipush 9, 2) := by decide +kernel
theorem dX8_init_205 : decode cX8_init 205 = .ok (.iconst (-1), 1) := by decide +kernel
theorem dX8_init_206 : decode cX8_init 206 = .ok (.iastore, 1) := by decide +kernel
theorem dX8_init_207 : decode cX8_init 207 = .ok (.dup, 1) := by decide +kernel
theorem dX8_init_208 : decode cX8_init 208 = .ok (.bipush 10, 2) := by decide +kernel
theorem dX8_init_210 : decode cX8_init 210 = .ok (.iconst (-1), 1) := by decide +kernel
theorem dX8_init_211 : decode cX8_init 211 = .ok (.iastore, 1) := by decide +kernel
theorem dX8_init_212 : decode cX8_init 212 = .ok (.dup, 1) := by decide +kernel
theorem dX8_init_213 : decode cX8_init 213 = .ok (.bipush 11, 2) := by decide +kernel
theorem dX8_init_215 : decode cX8_init 215 = .ok (.iconst (-1), 1) := by decide +kernel
theorem dX8_init_216 : decode cX8_init 216 = .ok (.iastore, 1) := by decide +kernel
theorem dX8_init_217 : decode cX8_init 217 = .ok (.dup, 1) := by decide +kernel
theorem dX8_init_218 : decode cX8_init 218 = .ok (.bipush 12, 2) := by decide +kernel
theorem dX8_init_220 : decode cX8_init 220 = .ok (.iconst (-1), 1) := by decide +kernel
theorem dX8_init_221 : decode cX8_init 221 = .ok (.iastore, 1) := by decide +kernel
theorem dX8_init_222 : decode cX8_init 222 = .ok (.dup, 1) := by decide +kernel
theorem dX8_init_223 : decode cX8_init 223 = .ok (.bipush 13, 2) := by decide +kernel
theorem dX8_init_225 : decode cX8_init 225 = .ok (.iconst (-1), 1) := by decide +kernel
theorem dX8_init_226 : decode cX8_init 226 = .ok (.iastore, 1) := by decide +kernel
theorem dX8_init_227 : decode cX8_init 227 = .ok (.dup, 1) := by decide +kernel
theorem dX8_init_228 : decode cX8_init 228 = .ok (.bipush 14, 2) := by decide +kernel
theorem dX8_init_230 : decode cX8_init 230 = .ok (.iconst (-1), 1) := by decide +kernel
theorem dX8_init_231 : decode cX8_init 231 = .ok (.iastore, 1) := by decide +kernel
theorem dX8_init_232 : decode cX8_init 232 = .ok (.dup, 1) := by decide +kernel
theorem dX8_init_233 : decode cX8_init 233 = .ok (.bipush 15, 2) := by decide +kernel
theorem dX8_init_235 : decode cX8_init 235 = .ok (.iconst (-1), 1) := by decide +kernel
theorem dX8_init_236 : decode cX8_init 236 = .ok (.iastore, 1) := by decide +kernel
theorem dX8_init_237 : decode cX8_init 237 = .ok (.putfield 50, 3) := by decide +kernel
theorem dX8_init_240 : decode cX8_init 240 = .ok (.aload_n 0, 1) := by decide +kernel
theorem dX8_init_241 : decode cX8_init 241 = .ok (.sipush 128, 3) := by decide +kernel
theorem dX8_init_244 : decode cX8_init 244 = .ok (.newarray .float, 2) := by decide +kernel
theorem dX8_init_246 : decode cX8_init 246 = .ok (.putfield 53, 3) := by decide +kernel
theorem dX8_init_249 : decode cX8_init 249 = .ok (.aload_n 0, 1) := by decide +kernel
theorem dX8_init_250 : decode cX8_init 250 = .ok (.sipush 128, 3) := by decide +kernel
theorem dX8_init_253 : decode cX8_init 253 = .ok (.newarray .double, 2) := by decide +kernel
theorem dX8_init_255 : decode cX8_init 255 = .ok (.putfield 56, 3) := by decide +kernel
theorem dX8_init_258 : decode cX8_init 258 = .ok (.aload_n 0, 1) := by decide +kernel
theorem dX8_init_259 : decode cX8_init 259 = .ok (.iconst 5, 1) := by decide +kernel
theorem dX8_init_260 : decode cX8_init 260 = .ok (.newarray .int, 2) := by decide +kernel
theorem dX8_init_262 : decode cX8_init 262 = .ok (.putfield 59, 3) := by decide +kernel
theorem dX8_init_265 : decode cX8_init 265 = .ok (.aload_n 0, 1) := by decide +kernel
theorem dX8_init_266 : decode cX8_init 266 = .ok (.iconst 0, 1) := by decide +kernel
theorem dX8_init_267 : decode cX8_init 267 = .ok (.putfield 62, 3) := by decide +kernel
theorem dX8_init_270 : decode cX8_init 270 = .ok (.return_, 1) := by decide +kernel
theorem dX8_in_0 : decode cX8_in 0 = .ok (.lload_n 0, 1) := by decide +kernel
theorem dX8_in_1 : decode cX8_in 1 = .ok (.lload_n 2, 1) := by decide +kernel
theorem dX8_in_2 : decode cX8_in 2 = .ok (.lcmp, 1) := by decide +kernel
theorem dX8_in_3 : decode cX8_in 3 = .ok (.ifCond .lt 14, 3) := by decide +kernel
theorem dX8_in_6 : decode cX8_in 6 = .ok (.lload_n 0, 1) := by decide +kernel
theorem dX8_in_7 : decode cX8_in 7 = .ok (.lload 4, 2) := by decide +kernel
theorem dX8_in_9 : decode cX8_in 9 = .ok (.lcmp, 1) := by decide +kernel
theorem dX8_in_10 : decode cX8_in 10 = .ok (.ifCond .gt 7, 3) := by decide +kernel
theorem dX8_in_13 : decode cX8_in 13 = .ok (.iconst 1, 1) := by decide +kernel
theorem dX8_in_14 : decode cX8_in 14 = .ok (.goto 4, 3) := by decide +kernel
theorem dX8_in_17 : decode cX8_in 17 = .ok (.iconst 0, 1) := by decide +kernel
theorem dX8_in_18 : decode cX8_in 18 = .ok (.ireturn, 1) := by decide +kernel
theorem dX8_done_0 : decode cX8_done 0 = .ok (.aload_n 0, 1) := by decide +kernel
theorem dX8_done_1 : decode cX8_done 1 = .ok (.iconst 0, 1) := by decide +kernel
theorem dX8_done_2 : decode cX8_done 2 = .ok (.putfield 66, 3) := by decide +kernel
theorem dX8_done_5 : decode cX8_done 5 = .ok (.iload_n 1, 1) := by decide +kernel
theorem dX8_done_6 : decode cX8_done 6 = .ok (.ireturn, 1) := by decide +kernel
theorem dX8_fails_0 : decode cX8_fails 0 = .ok (.aload_n 0, 1) := by decide +kernel
theorem dX8_fails_1 : decode cX8_fails 1 = .ok (.iload_n 1, 1) := by decide +kernel
theorem dX8_fails_2 : decode cX8_fails 2 = .ok (.putfield 66, 3) := by decide +kernel
theorem dX8_fails_5 : decode cX8_fails 5 = .ok (.aload_n 0, 1) := by decide +kernel
theorem dX8_fails_6 : decode cX8_fails 6 = .ok (.getfield 59, 3) := by decide +kernel
theorem dX8_fails_9 : decode cX8_fails 9 = .ok (.bipush (-11), 2) := by decide +kernel
theorem dX8_fails_11 : decode cX8_fails 11 = .ok (.iload_n 1, 1) := by decide +kernel
theorem dX8_fails_12 : decode cX8_fails 12 = .ok (.isub, 1) := by decide +kernel
theorem dX8_fails_13 : decode cX8_fails 13 = .ok (.dup2, 1) := by decide +kernel
theorem dX8_fails_14 : decode cX8_fails 14 = .ok (.iaload, 1) := by decide +kernel
theorem dX8_fails_15 : decode cX8_fails 15 = .ok (.iconst 1, 1) := by decide +kernel
theorem dX8_fails_16 : decode cX8_fails 16 = .ok (.iadd, 1) := by decide +kernel
theorem dX8_fails_17 : decode cX8_fails 17 = .ok (.iastore, 1) := by decide +kernel
theorem dX8_fails_18 : decode cX8_fails 18 = .ok (.iload_n 1, 1) := by decide +kernel
theorem dX8_fails_19 : decode cX8_fails 19 = .ok (.ireturn, 1) := by decide +kernel
theorem dX8_isFitFloat_0 : decode cX8_isFitFloat 0 = .ok (.lload_n 0, 1) := by decide +kernel
theorem dX8_isFitFloat_1 : decode cX8_isFitFloat 1 = .ok (.l2i, 1) := by decide +kernel
theorem dX8_isFitFloat_2 : decode cX8_isFitFloat 2 = .ok (.ldc 69, 2) := by decide +kernel
theorem dX8_isFitFloat_4 : decode cX8_isFitFloat 4 = .ok (.iand, 1) := by decide +kernel
theorem dX8_isFitFloat_5 : decode cX8_isFitFloat 5 = .ok (.ldc 69, 2) := by decide +kernel
theorem dX8_isFitFloat_7 : decode cX8_isFitFloat 7 = .ok (.if_icmp .eq 7, 3) := by decide +kernel
theorem dX8_isFitFloat_10 : decode cX8_isFitFloat 10 = .ok (.iconst 1, 1) := by decide +kernel
theorem dX8_isFitFloat_11 : decode cX8_isFitFloat 11 = .ok (.goto 4, 3) := by decide +kernel
theorem dX8_isFitFloat_14 : decode cX8_isFitFloat 14 = .ok (.iconst 0, 1) := by decide +kernel
theorem dX8_isFitFloat_15 : decode cX8_isFitFloat 15 = .ok (.ireturn, 1) := by decide +kernel
theorem dX8_isFitDouble_0 : decode cX8_isFitDouble 0 = .ok (.lload_n 0, 1) := by decide +kernel
theorem dX8_isFitDouble_1 : decode cX8_isFitDouble 1 = .ok (.ldc2_w 70, 3) := by decide +kernel
theorem dX8_isFitDouble_4 : decode cX8_isFitDouble 4 = .ok (.land, 1) := by decide +kernel
theorem dX8_isFitDouble_5 : decode cX8_isFitDouble 5 = .ok (.ldc2_w 70, 3) := by decide +kernel
theorem dX8_isFitDouble_8 : decode cX8_isFitDouble 8 = .ok (.lcmp, 1) := by decide +kernel
theorem dX8_isFitDouble_9 : decode cX8_isFitDouble 9 = .ok (.ifCond .eq 7, 3) := by decide +kernel
theorem dX8_isFitDouble_12 : decode cX8_isFitDouble 12 = .ok (.iconst 1, 1) := by decide +kernel
theorem dX8_isFitDouble_13 : decode cX8_isFitDouble 13 = .ok (.goto 4, 3) := by decide +kernel
theorem dX8_isFitDouble_16 : decode cX8_isFitDouble 16 = .ok (.iconst 0, 1) := by decide +kernel
theorem dX8_isFitDouble_17 : decode cX8_isFitDouble 17 = .ok (.ireturn, 1) := by decide +kernel
set_option maxRecDepth 20000 in
theorem ggX8_isFit_X8_isFitDouble : GoodIn wsX8_isFit wsX8_isFitDouble := goodIn_r _ [4, 5] (by decide +kernel) (by decide +kernel)
set_option maxRecDepth 20000 in
theorem gX8_isFit_X8_isFitDouble : GoodIn wsX8_isFit (va_wsS RX8 72 yX8_isFitDouble wsX8_isFitDouble) := goodIn_app (goodIn_of _ (by decide +kernel)) ggX8_isFit_X8_isFitDouble
set_option maxRecDepth 20000 in
theorem ggX8_isFit_X8_isFitFloat : GoodIn wsX8_isFit wsX8_isFitFloat := goodIn_r _ [8, 9] (by decide +kernel) (by decide +kernel)
set_option maxRecDepth 20000 in
theorem gX8_isFit_X8_isFitFloat : GoodIn wsX8_isFit (va_wsS RX8 76 yX8_isFitFloat wsX8_isFitFloat) := goodIn_app (goodIn_of _ (by decide +kernel)) ggX8_isFit_X8_isFitFloat
theorem dX8_isFit_0 : decode cX8_isFit 0 = .ok (.iload_n 0, 1) := by decide +kernel
theorem dX8_isFit_1 : decode cX8_isFit 1 = .ok (.ifCond .eq 10, 3) := by decide +kernel
theorem dX8_isFit_4 : decode cX8_isFit 4 = .ok (.lload_n 1, 1) := by decide +kernel
theorem dX8_isFit_5 : decode cX8_isFit 5 = .ok (.invokestatic 72, 3) := by decide +kernel
theorem dX8_isFit_8 : decode cX8_isFit 8 = .ok (.goto 7, 3) := by decide +kernel
theorem dX8_isFit_11 : decode cX8_isFit 11 = .ok (.lload_n 1, 1) := by decide +kernel
theorem dX8_isFit_12 : decode cX8_isFit 12 = .ok (.invokestatic 76, 3) := by decide +kernel
theorem dX8_isFit_15 : decode cX8_isFit 15 = .ok (.ireturn, 1) := by decide +kernel
theorem dX8_isNone_0 : decode cX8_isNone 0 = .ok (.iload_n 0, 1) := by decide +kernel
theorem dX8_isNone_1 : decode cX8_isNone 1 = .ok (.iconst 2, 1) := by decide +kernel
theorem dX8_isNone_2 : decode cX8_isNone 2 = .ok (.if_icmp .ne 21, 3) := by decide +kernel
theorem dX8_isNone_5 : decode cX8_isNone 5 = .ok (.lload_n 1, 1) := by decide +kernel
theorem dX8_isNone_6 : decode cX8_isNone 6 = .ok (.l2i, 1) := by decide +kernel
theorem dX8_isNone_7 : decode cX8_isNone 7 = .ok (.ldc 79, 2) := by decide +kernel
theorem dX8_isNone_9 : decode cX8_isNone 9 = .ok (.iand, 1) := by decide +kernel
theorem dX8_isNone_10 : decode cX8_isNone 10 = .ok (.ldc 69, 2) := by decide +kernel
theorem dX8_isNone_12 : decode cX8_isNone 12 = .ok (.if_icmp .le 7, 3) := by decide +kernel
theorem dX8_isNone_15 : decode cX8_isNone 15 = .ok (.iconst 1, 1) := by decide +kernel
theorem dX8_isNone_16 : decode cX8_isNone 16 = .ok (.goto 29, 3) := by decide +kernel
theorem dX8_isNone_19 : decode cX8_isNone 19 = .ok (.iconst 0, 1) := by decide +kernel
theorem dX8_isNone_20 : decode cX8_isNone 20 = .ok (.goto 25, 3) := by decide +kernel
theorem dX8_isNone_23 : decode cX8_isNone 23 = .ok (.iload_n 0, 1) := by decide +kernel
theorem dX8_isNone_24 : decode cX8_isNone 24 = .ok (.iconst 3, 1) := by decide +kernel
theorem dX8_isNone_25 : decode cX8_isNone 25 = .ok (.if_icmp .ne 19, 3) := by decide +kernel
theorem dX8_isNone_28 : decode cX8_isNone 28 = .ok (.lload_n 1, 1) := by decide +kernel
theorem dX8_isNone_29 : decode cX8_isNone 29 = .ok (.ldc2_w 80, 3) := by decide +kernel
theorem dX8_isNone_32 : decode cX8_isNone 32 = .ok (.land, 1) := by decide +kernel
theorem dX8_isNone_33 : decode cX8_isNone 33 = .ok (.ldc2_w 70, 3) := by decide +kernel
theorem dX8_isNone_36 : decode cX8_isNone 36 = .ok (.lcmp, 1) := by decide +kernel
theorem dX8_isNone_37 : decode cX8_isNone 37 = .ok (.ifCond .le 7, 3) := by decide +kernel
theorem dX8_isNone_40 : decode cX8_isNone 40 = .ok (.iconst 1, 1) := by decide +kernel
theorem dX8_isNone_41 : decode cX8_isNone 41 = .ok (.goto 4, 3) := by decide +kernel
theorem dX8_isNone_44 : decode cX8_isNone 44 = .ok (.iconst 0, 1) := by decide +kernel
theorem dX8_isNone_45 : decode cX8_isNone 45 = .ok (.ireturn, 1) := by decide +kernel
theorem dX8_isEndless_0 : decode cX8_isEndless 0 = .ok (.dload_n 0, 1) := by decide +kernel
theorem dX8_isEndless_1 : decode cX8_isEndless 1 = .ok (.ldc2_w 82, 3) := by decide +kernel
theorem dX8_isEndless_4 : decode cX8_isEndless 4 = .ok (.dcmp .l, 1) := by decide +kernel
theorem dX8_isEndless_5 : decode cX8_isEndless 5 = .ok (.ifCond .gt 11, 3) := by decide +kernel
theorem dX8_isEndless_8 : decode cX8_isEndless 8 = .ok (.dload_n 0, 1) := by decide +kernel
theorem dX8_isEndless_9 : decode cX8_isEndless 9 = .ok (.ldc2_w 84, 3) := by decide +kernel
theorem dX8_isEndless_12 : decode cX8_isEndless 12 = .ok (.dcmp .g, 1) := by decide +kernel
theorem dX8_isEndless_13 : decode cX8_isEndless 13 = .ok (.ifCond .ge 7, 3) := by decide +kernel
theorem dX8_isEndless_16 : decode cX8_isEndless 16 = .ok (.iconst 1, 1) := by decide +kernel
theorem dX8_isEndless_17 : decode cX8_isEndless 17 = .ok (.goto 4, 3) := by decide +kernel
theorem dX8_isEndless_20 : decode cX8_isEndless 20 = .ok (.iconst 0, 1) := by decide +kernel
theorem dX8_isEndless_21 : decode cX8_isEndless 21 = .ok (.ireturn, 1) := by decide +kernel
theorem dX8_isEndlessFloat_0 : decode cX8_isEndlessFloat 0 = .ok (.fload_n 0, 1) := by decide +kernel
theorem dX8_isEndlessFloat_1 : decode cX8_isEndlessFloat 1 = .ok (.ldc 86, 2) := by decide +kernel
theorem dX8_isEndlessFloat_3 : decode cX8_isEndlessFloat 3 = .ok (.fcmp .l, 1) := by decide +kernel
theorem dX8_isEndlessFloat_4 : decode cX8_isEndlessFloat 4 = .ok (.ifCond .gt 10, 3) := by decide +kernel
theorem dX8_isEndlessFloat_7 : decode cX8_isEndlessFloat 7 = .ok (.fload_n 0, 1) := by decide +kernel
theorem dX8_isEndlessFloat_8 : decode cX8_isEndlessFloat 8 = .ok (.ldc 87, 2) := by decide +kernel
theorem dX8_isEndlessFloat_10 : decode cX8_isEndlessFloat 10 = .ok (.fcmp .g, 1) := by decide +kernel
theorem dX8_isEndlessFloat_11 : decode cX8_isEndlessFloat 11 = .ok (.ifCond .ge 7, 3) := by decide +kernel
theorem dX8_isEndlessFloat_14 : decode cX8_isEndlessFloat 14 = .ok (.iconst 1, 1) := by decide +kernel
theorem dX8_isEndlessFloat_15 : decode cX8_isEndlessFloat 15 = .ok (.goto 4, 3) := by decide +kernel
theorem dX8_isEndlessFloat_18 : decode cX8_isEndlessFloat 18 = .ok (.iconst 0, 1) := by decide +kernel
theorem dX8_isEndlessFloat_19 : decode cX8_isEndlessFloat 19 = .ok (.ireturn, 1) := by decide +kernel
theorem dX8_floatOf_0 : decode cX8_floatOf 0 = .ok (.lload_n 0, 1) := by decide +kernel
theorem dX8_floatOf_1 : decode cX8_floatOf 1 = .ok (.l2i, 1) := by decide +kernel
theorem dX8_floatOf_2 : decode cX8_floatOf 2 = .ok (.invokestatic 88, 3) := by decide +kernel
theorem dX8_floatOf_5 : decode cX8_floatOf 5 = .ok (.freturn, 1) := by decide +kernel
theorem dX8_doubleOf_0 : decode cX8_doubleOf 0 = .ok (.lload_n 0, 1) := by decide +kernel
theorem dX8_doubleOf_1 : decode cX8_doubleOf 1 = .ok (.invokestatic 94, 3) := by decide +kernel
theorem dX8_doubleOf_4 : decode cX8_doubleOf 4 = .ok (.dreturn, 1) := by decide +kernel
set_option maxRecDepth 20000 in
theorem ggX8_isDial_X8_in : GoodIn wsX8_isDial wsX8_in := goodIn_r _ [5] (by decide +kernel) (by decide +kernel)
set_option maxRecDepth 20000 in
theorem gX8_isDial_X8_in : GoodIn wsX8_isDial (va_wsS RX8 100 yX8_in wsX8_in) := goodIn_app (goodIn_of _ (by decide +kernel)) ggX8_isDial_X8_in
theorem dX8_isDial_0 : decode cX8_isDial 0 = .ok (.iload_n 1, 1) := by decide +kernel
theorem dX8_isDial_1 : decode cX8_isDial 1 = .ok (.i2l, 1) := by decide +kernel
theorem dX8_isDial_2 : decode cX8_isDial 2 = .ok (.lconst 0, 1) := by decide +kernel
theorem dX8_isDial_3 : decode cX8_isDial 3 = .ok (.aload_n 0, 1) := by decide +kernel
theorem dX8_isDial_4 : decode cX8_isDial 4 = .ok (.getfield 62, 3) := by decide +kernel
theorem dX8_isDial_7 : decode cX8_isDial 7 = .ok (.i2l, 1) := by decide +kernel
theorem dX8_isDial_8 : decode cX8_isDial 8 = .ok (.lconst 1, 1) := by decide +kernel
theorem dX8_isDial_9 : decode cX8_isDial 9 = .ok (.lsub, 1) := by decide +kernel
theorem dX8_isDial_10 : decode cX8_isDial 10 = .ok (.invokestatic 100, 3) := by decide +kernel
theorem dX8_isDial_13 : decode cX8_isDial 13 = .ok (.ireturn, 1) := by decide +kernel
set_option maxRecDepth 20000 in
theorem ggX8_dial_X8_isFit : GoodIn wsX8_dial wsX8_isFit := goodIn_r _ [11, 12, 13, 10, 14, 15, 16, 17, 18, 19] (by decide +kernel) (by decide +kernel)
set_option maxRecDepth 20000 in
theorem gX8_dial_X8_isFit : GoodIn wsX8_dial (va_wsS RX8 104 yX8_isFit wsX8_isFit) := goodIn_app (goodIn_of _ (by decide +kernel)) ggX8_dial_X8_isFit
set_option maxRecDepth 20000 in
theorem ggX8_dial_X8_doubleOf : GoodIn wsX8_dial wsX8_doubleOf := goodIn_r _ [22, 23, 24, 25, 26] (by decide +kernel) (by decide +kernel)
set_option maxRecDepth 20000 in
theorem gX8_dial_X8_doubleOf : GoodIn wsX8_dial (va_wsS RX8 108 yX8_doubleOf wsX8_doubleOf) := goodIn_app (goodIn_of _ (by decide +kernel)) ggX8_dial_X8_doubleOf
set_option maxRecDepth 20000 in
theorem ggX8_dial_X8_floatOf : GoodIn wsX8_dial wsX8_floatOf := goodIn_r _ [29, 30, 31, 32, 33] (by decide +kernel) (by decide +kernel)
set_option maxRecDepth 20000 in
theorem gX8_dial_X8_floatOf : GoodIn wsX8_dial (va_wsS RX8 111 yX8_floatOf wsX8_floatOf) := goodIn_app (goodIn_of _ (by decide +kernel)) ggX8_dial_X8_floatOf
theorem dX8_dial_0 : decode cX8_dial 0 = .ok (.iload_n 1, 1) := by decide +kernel
theorem dX8_dial_1 : decode cX8_dial 1 = .ok (.lload_n 2, 1) := by decide +kernel
theorem dX8_dial_2 : decode cX8_dial 2 = .ok (.invokestatic 104, 3) := by decide +kernel
theorem dX8_dial_5 : decode cX8_dial 5 = .ok (.ifCond .eq 28, 3) := by decide +kernel
theorem dX8_dial_8 : decode cX8_dial 8 = .ok (.iload_n 1, 1) := by decide +kernel
theorem dX8_dial_9 : decode cX8_dial 9 = .ok (.ifCond .eq 15, 3) := by decide +kernel
theorem dX8_dial_12 : decode cX8_dial 12 = .ok (.lload_n 2, 1) := by decide +kernel
theorem dX8_dial_13 : decode cX8_dial 13 = .ok (.invokestatic 108, 3) := by decide +kernel
theorem dX8_dial_16 : decode cX8_dial 16 = .ok (.dconst 0, 1) := by decide +kernel
theorem dX8_dial_17 : decode cX8_dial 17 = .ok (.dcmp .l, 1) := by decide +kernel
theorem dX8_dial_18 : decode cX8_dial 18 = .ok (.ifCond .ne 18, 3) := by decide +kernel
theorem dX8_dial_21 : decode cX8_dial 21 = .ok (.goto 12, 3) := by decide +kernel
theorem dX8_dial_24 : decode cX8_dial 24 = .ok (.lload_n 2, 1) := by decide +kernel
theorem dX8_dial_25 : decode cX8_dial 25 = .ok (.invokestatic 111, 3) := by decide +kernel
theorem dX8_dial_28 : decode cX8_dial 28 = .ok (.fconst 0, 1) := by decide +kernel
theorem dX8_dial_29 : decode cX8_dial 29 = .ok (.fcmp .l, 1) := by decide +kernel
theorem dX8_dial_30 : decode cX8_dial 30 = .ok (.ifCond .ne 6, 3) := by decide +kernel
theorem dX8_dial_33 : decode cX8_dial 33 = .ok (.bipush (-102), 2) := by decide +kernel
theorem dX8_dial_35 : decode cX8_dial 35 = .ok (.ireturn, 1) := by decide +kernel
theorem dX8_dial_36 : decode cX8_dial 36 = .ok (.aload_n 0, 1) := by decide +kernel
theorem dX8_dial_37 : decode cX8_dial 37 = .ok (.getfield 62, 3) := by decide +kernel
theorem dX8_dial_40 : decode cX8_dial 40 = .ok (.bipush 12, 2) := by decide +kernel
theorem dX8_dial_42 : decode cX8_dial 42 = .ok (.if_icmp .ne 6, 3) := by decide +kernel
theorem dX8_dial_45 : decode cX8_dial 45 = .ok (.bipush (-103), 2) := by decide +kernel
theorem dX8_dial_47 : decode cX8_dial 47 = .ok (.ireturn, 1) := by decide +kernel
theorem dX8_dial_48 : decode cX8_dial 48 = .ok (.aload_n 0, 1) := by decide +kernel
theorem dX8_dial_49 : decode cX8_dial 49 = .ok (.getfield 7, 3) := by decide +kernel
theorem dX8_dial_52 : decode cX8_dial 52 = .ok (.aload_n 0, 1) := by decide +kernel
theorem dX8_dial_53 : decode cX8_dial 53 = .ok (.getfield 62, 3) := by decide +kernel
theorem dX8_dial_56 : decode cX8_dial 56 = .ok (.iload_n 1, 1) := by decide +kernel
theorem dX8_dial_57 : decode cX8_dial 57 = .ok (.bastore, 1) := by decide +kernel
theorem dX8_dial_58 : decode cX8_dial 58 = .ok (.aload_n 0, 1) := by decide +kernel
theorem dX8_dial_59 : decode cX8_dial 59 = .ok (.getfield 13, 3) := by decide +kernel
theorem dX8_dial_62 : decode cX8_dial 62 = .ok (.aload_n 0, 1) := by decide +kernel
theorem dX8_dial_63 : decode cX8_dial 63 = .ok (.getfield 62, 3) := by decide +kernel
theorem dX8_dial_66 : decode cX8_dial 66 = .ok (.iload_n 1, 1) := by decide +kernel
theorem dX8_dial_67 : decode cX8_dial 67 = .ok (.ifCond .eq 7, 3) := by decide +kernel
theorem dX8_dial_70 : decode cX8_dial 70 = .ok (.fconst 1, 1) := by decide +kernel
theorem dX8_dial_71 : decode cX8_dial 71 = .ok (.goto 7, 3) := by decide +kernel
theorem dX8_dial_74 : decode cX8_dial 74 = .ok (.lload_n 2, 1) := by decide +kernel
theorem dX8_dial_75 : decode cX8_dial 75 = .ok (.invokestatic 111, 3) := by decide +kernel
theorem dX8_dial_78 : decode cX8_dial 78 = .ok (.fastore, 1) := by decide +kernel
theorem dX8_dial_79 : decode cX8_dial 79 = .ok (.aload_n 0, 1) := by decide +kernel
theorem dX8_dial_80 : decode cX8_dial 80 = .ok (.getfield 20, 3) := by decide +kernel
theorem dX8_dial_83 : decode cX8_dial 83 = .ok (.aload_n 0, 1) := by decide +kernel
theorem dX8_dial_84 : decode cX8_dial 84 = .ok (.getfield 62, 3) := by decide +kernel
theorem dX8_dial_87 : decode cX8_dial 87 = .ok (.iload_n 1, 1) := by decide +kernel
theorem dX8_dial_88 : decode cX8_dial 88 = .ok (.ifCond .eq 10, 3) := by decide +kernel
theorem dX8_dial_91 : decode cX8_dial 91 = .ok (.lload_n 2, 1) := by decide +kernel
theorem dX8_dial_92 : decode cX8_dial 92 = .ok (.invokestatic 108, 3) := by decide +kernel
theorem dX8_dial_95 : decode cX8_dial 95 = .ok (.goto 4, 3) := by decide +kernel
theorem dX8_dial_98 : decode cX8_dial 98 = .ok (.dconst 1, 1) := by decide +kernel
theorem dX8_dial_99 : decode cX8_dial 99 = .ok (.dastore, 1) := by decide +kernel
theorem dX8_dial_100 : decode cX8_dial 100 = .ok (.aload_n 0, 1) := by decide +kernel
theorem dX8_dial_101 : decode cX8_dial 101 = .ok (.getfield 17, 3) := by decide +kernel
theorem dX8_dial_104 : decode cX8_dial 104 = .ok (.aload_n 0, 1) := by decide +kernel
theorem dX8_dial_105 : decode cX8_dial 105 = .ok (.getfield 62, 3) := by decide +kernel
theorem dX8_dial_108 : decode cX8_dial 108 = .ok (.fconst 0, 1) := by decide +kernel
theorem dX8_dial_109 : decode cX8_dial 109 = .ok (.fastore, 1) := by decide +kernel
theorem dX8_dial_110 : decode cX8_dial 110 = .ok (.aload_n 0, 1) := by decide +kernel
theorem dX8_dial_111 : decode cX8_dial 111 = .ok (.getfield 24, 3) := by decide +kernel
theorem dX8_dial_114 : decode cX8_dial 114 = .ok (.aload_n 0, 1) := by decide +kernel
theorem dX8_dial_115 : decode cX8_dial 115 = .ok (.getfield 62, 3) := by decide +kernel
theorem dX8_dial_118 : decode cX8_dial 118 = .ok (.dconst 0, 1) := by decide +kernel
theorem dX8_dial_119 : decode cX8_dial 119 = .ok (.dastore, 1) := by decide +kernel
theorem dX8_dial_120 : decode cX8_dial 120 = .ok (.aload_n 0, 1) := by decide +kernel
theorem dX8_dial_121 : decode cX8_dial 121 = .ok (.getfield 27, 3) := by decide +kernel
theorem dX8_dial_124 : decode cX8_dial 124 = .ok (.aload_n 0, 1) := by decide +kernel
theorem dX8_dial_125 : decode cX8_dial 125 = .ok (.getfield 62, 3) := by decide +kernel
theorem dX8_dial_128 : decode cX8_dial 128 = .ok (.lconst 0, 1) := by decide +kernel
theorem dX8_dial_129 : decode cX8_dial 129 = .ok (.lastore, 1) := by decide +kernel
theorem dX8_dial_130 : decode cX8_dial 130 = .ok (.aload_n 0, 1) := by decide +kernel
theorem dX8_dial_131 : decode cX8_dial 131 = .ok (.dup, 1) := by decide +kernel
theorem dX8_dial_132 : decode cX8_dial 132 = .ok (.getfield 62, 3) := by decide +kernel
theorem dX8_dial_135 : decode cX8_dial 135 = .ok (.iconst 1, 1) := by decide +kernel
theorem dX8_dial_136 : decode cX8_dial 136 = .ok (.iadd, 1) := by decide +kernel
theorem dX8_dial_137 : decode cX8_dial 137 = .ok (.putfield 62, 3) := by decide +kernel
theorem dX8_dial_140 : decode cX8_dial 140 = .ok (.aload_n 0, 1) := by decide +kernel
theorem dX8_dial_141 : decode cX8_dial 141 = .ok (.getfield 62, 3) := by decide +kernel
theorem dX8_dial_144 : decode cX8_dial 144 = .ok (.iconst 1, 1) := by decide +kernel
theorem dX8_dial_145 : decode cX8_dial 145 = .ok (.isub, 1) := by decide +kernel
theorem dX8_dial_146 : decode cX8_dial 146 = .ok (.ireturn, 1) := by decide +kernel
set_option maxRecDepth 20000 in
theorem ggX8_goesFloat_X8_isEndlessFloat : GoodIn wsX8_goesFloat wsX8_isEndlessFloat := goodIn_r _ [7, 8, 9] (by decide +kernel) (by decide +kernel)
set_option maxRecDepth 20000 in
theorem gX8_goesFloat_X8_isEndlessFloat : GoodIn wsX8_goesFloat (va_wsS RX8 115 yX8_isEndlessFloat wsX8_isEndlessFloat) := goodIn_app (goodIn_of _ (by decide +kernel)) ggX8_goesFloat_X8_isEndlessFloat
theorem dX8_goesFloat_0 : decode cX8_goesFloat 0 = .ok (.aload_n 0, 1) := by decide +kernel
theorem dX8_goesFloat_1 : decode cX8_goesFloat 1 = .ok (.getfield 17, 3) := by decide +kernel
theorem dX8_goesFloat_4 : decode cX8_goesFloat 4 = .ok (.iload_n 1, 1) := by decide +kernel
theorem dX8_goesFloat_5 : decode cX8_goesFloat 5 = .ok (.faload, 1) := by decide +kernel
theorem dX8_goesFloat_6 : decode cX8_goesFloat 6 = .ok (.fload_n 2, 1) := by decide +kernel
theorem dX8_goesFloat_7 : decode cX8_goesFloat 7 = .ok (.fadd, 1) := by decide +kernel
theorem dX8_goesFloat_8 : decode cX8_goesFloat 8 = .ok (.fstore_n 3, 1) := by decide +kernel
theorem dX8_goesFloat_9 : decode cX8_goesFloat 9 = .ok (.fload_n 3, 1) := by decide +kernel
theorem dX8_goesFloat_10 : decode cX8_goesFloat 10 = .ok (.invokestatic 115, 3) := by decide +kernel
theorem dX8_goesFloat_13 : decode cX8_goesFloat 13 = .ok (.ifCond .eq 5, 3) := by decide +kernel
theorem dX8_goesFloat_16 : decode cX8_goesFloat 16 = .ok (.iconst 0, 1) := by decide +kernel
theorem dX8_goesFloat_17 : decode cX8_goesFloat 17 = .ok (.ireturn, 1) := by decide +kernel
theorem dX8_goesFloat_18 : decode cX8_goesFloat 18 = .ok (.aload_n 0, 1) := by decide +kernel
theorem dX8_goesFloat_19 : decode cX8_goesFloat 19 = .ok (.getfield 27, 3) := by decide +kernel
theorem dX8_goesFloat_22 : decode cX8_goesFloat 22 = .ok (.iload_n 1, 1) := by decide +kernel
theorem dX8_goesFloat_23 : decode cX8_goesFloat 23 = .ok (.dup2, 1) := by decide +kernel
theorem dX8_goesFloat_24 : decode cX8_goesFloat 24 = .ok (.laload, 1) := by decide +kernel
theorem dX8_goesFloat_25 : decode cX8_goesFloat 25 = .ok (.fload_n 3, 1) := by decide +kernel
theorem dX8_goesFloat_26 : decode cX8_goesFloat 26 = .ok (.aload_n 0, 1) := by decide +kernel
theorem dX8_goesFloat_27 : decode cX8_goesFloat 27 = .ok (.getfield 13, 3) := by decide +kernel
theorem dX8_goesFloat_30 : decode cX8_goesFloat 30 = .ok (.iload_n 1, 1) := by decide +kernel
theorem dX8_goesFloat_31 : decode cX8_goesFloat 31 = .ok (.faload, 1) := by decide +kernel
theorem dX8_goesFloat_32 : decode cX8_goesFloat 32 = .ok (.fdiv, 1) := by decide +kernel
theorem dX8_goesFloat_33 : decode cX8_goesFloat 33 = .ok (.f2l, 1) := by decide +kernel
theorem dX8_goesFloat_34 : decode cX8_goesFloat 34 = .ok (.ladd, 1) := by decide +kernel
theorem dX8_goesFloat_35 : decode cX8_goesFloat 35 = .ok (.lastore, 1) := by decide +kernel
theorem dX8_goesFloat_36 : decode cX8_goesFloat 36 = .ok (.aload_n 0, 1) := by decide +kernel
theorem dX8_goesFloat_37 : decode cX8_goesFloat 37 = .ok (.getfield 17, 3) := by decide +kernel
theorem dX8_goesFloat_40 : decode cX8_goesFloat 40 = .ok (.iload_n 1, 1) := by decide +kernel
theorem dX8_goesFloat_41 : decode cX8_goesFloat 41 = .ok (.fload_n 3, 1) := by decide +kernel
theorem dX8_goesFloat_42 : decode cX8_goesFloat 42 = .ok (.aload_n 0, 1) := by decide +kernel
theorem dX8_goesFloat_43 : decode cX8_goesFloat 43 = .ok (.getfield 13, 3) := by decide +kernel
theorem dX8_goesFloat_46 : decode cX8_goesFloat 46 = .ok (.iload_n 1, 1) := by decide +kernel
theorem dX8_goesFloat_47 : decode cX8_goesFloat 47 = .ok (.faload, 1) := by decide +kernel
theorem dX8_goesFloat_48 : decode cX8_goesFloat 48 = .ok (.frem, 1) := by decide +kernel
theorem dX8_goesFloat_49 : decode cX8_goesFloat 49 = .ok (.fastore, 1) := by decide +kernel
theorem dX8_goesFloat_50 : decode cX8_goesFloat 50 = .ok (.iconst 1, 1) := by decide +kernel
theorem dX8_goesFloat_51 : decode cX8_goesFloat 51 = .ok (.ireturn, 1) := by decide +kernel
set_option maxRecDepth 20000 in
theorem ggX8_goesDouble_X8_isEndless : GoodIn wsX8_goesDouble wsX8_isEndless := goodIn_r _ [7, 8, 9] (by decide +kernel) (by decide +kernel)
set_option maxRecDepth 20000 in
theorem gX8_goesDouble_X8_isEndless : GoodIn wsX8_goesDouble (va_wsS RX8 119 yX8_isEndless wsX8_isEndless) := goodIn_app (goodIn_of _ (by decide +kernel)) ggX8_goesDouble_X8_isEndless
theorem dX8_goesDouble_0 : decode cX8_goesDouble 0 = .ok (.aload_n 0, 1) := by decide +kernel
theorem dX8_goesDouble_1 : decode cX8_goesDouble 1 = .ok (.getfield 24, 3) := by decide +kernel
theorem dX8_goesDouble_4 : decode cX8_goesDouble 4 = .ok (.iload_n 1, 1) := by decide +kernel
theorem dX8_goesDouble_5 : decode cX8_goesDouble 5 = .ok (.daload, 1) := by decide +kernel
theorem dX8_goesDouble_6 : decode cX8_goesDouble 6 = .ok (.dload_n 2, 1) := by decide +kernel
theorem dX8_goesDouble_7 : decode cX8_goesDouble 7 = .ok (.dadd, 1) := by decide +kernel
theorem dX8_goesDouble_8 : decode cX8_goesDouble 8 = .ok (.dstore 4, 2) := by decide +kernel
theorem dX8_goesDouble_10 : decode cX8_goesDouble 10 = .ok (.dload 4, 2) := by decide +kernel
theorem dX8_goesDouble_12 : decode cX8_goesDouble 12 = .ok (.invokestatic 119, 3) := by decide +kernel
theorem dX8_goesDouble_15 : decode cX8_goesDouble 15 = .ok (.ifCond .eq 5, 3) := by decide +kernel
theorem dX8_goesDouble_18 : decode cX8_goesDouble 18 = .ok (.iconst 0, 1) := by decide +kernel
theorem dX8_goesDouble_19 : decode cX8_goesDouble 19 = .ok (.ireturn, 1) := by decide +kernel
theorem dX8_goesDouble_20 : decode cX8_goesDouble 20 = .ok (.aload_n 0, 1) := by decide +kernel
theorem dX8_goesDouble_21 : decode cX8_goesDouble 21 = .ok (.getfield 27, 3) := by decide +kernel
theorem dX8_goesDouble_24 : decode cX8_goesDouble 24 = .ok (.iload_n 1, 1) := by decide +kernel
theorem dX8_goesDouble_25 : decode cX8_goesDouble 25 = .ok (.dup2, 1) := by decide +kernel
theorem dX8_goesDouble_26 : decode cX8_goesDouble 26 = .ok (.laload, 1) := by decide +kernel
theorem dX8_goesDouble_27 : decode cX8_goesDouble 27 = .ok (.dload 4, 2) := by decide +kernel
theorem dX8_goesDouble_29 : decode cX8_goesDouble 29 = .ok (.aload_n 0, 1) := by decide +kernel
theorem dX8_goesDouble_30 : decode cX8_goesDouble 30 = .ok (.getfield 20, 3) := by decide +kernel
theorem dX8_goesDouble_33 : decode cX8_goesDouble 33 = .ok (.iload_n 1, 1) := by decide +kernel
theorem dX8_goesDouble_34 : decode cX8_goesDouble 34 = .ok (.daload, 1) := by decide +kernel
theorem dX8_goesDouble_35 : decode cX8_goesDouble 35 = .ok (.ddiv, 1) := by decide +kernel
theorem dX8_goesDouble_36 : decode cX8_goesDouble 36 = .ok (.d2l, 1) := by decide +kernel
theorem dX8_goesDouble_37 : decode cX8_goesDouble 37 = .ok (.ladd, 1) := by decide +kernel
theorem dX8_goesDouble_38 : decode cX8_goesDouble 38 = .ok (.lastore, 1) := by decide +kernel
theorem dX8_goesDouble_39 : decode cX8_goesDouble 39 = .ok (.aload_n 0, 1) := by decide +kernel
theorem dX8_goesDouble_40 : decode cX8_goesDouble 40 = .ok (.getfield 24, 3) := by decide +kernel
theorem dX8_goesDouble_43 : decode cX8_goesDouble 43 = .ok (.iload_n 1, 1) := by decide +kernel
theorem dX8_goesDouble_44 : decode cX8_goesDouble 44 = .ok (.dload 4, 2) := by decide +kernel
theorem dX8_goesDouble_46 : decode cX8_goesDouble 46 = .ok (.aload_n 0, 1) := by decide +kernel
theorem dX8_goesDouble_47 : decode cX8_goesDouble 47 = .ok (.getfield 20, 3) := by decide +kernel
theorem dX8_goesDouble_50 : decode cX8_goesDouble 50 = .ok (.iload_n 1, 1) := by decide +kernel
theorem dX8_goesDouble_51 : decode cX8_goesDouble 51 = .ok (.daload, 1) := by decide +kernel
theorem dX8_goesDouble_52 : decode cX8_goesDouble 52 = .ok (.drem, 1) := by decide +kernel
theorem dX8_goesDouble_53 : decode cX8_goesDouble 53 = .ok (.dastore, 1) := by decide +kernel
theorem dX8_goesDouble_54 : decode cX8_goesDouble 54 = .ok (.iconst 1, 1) := by decide +kernel
theorem dX8_goesDouble_55 : decode cX8_goesDouble 55 = .ok (.ireturn, 1) := by decide +kernel
set_option maxRecDepth 20000 in
theorem ggX8_goes_X8_doubleOf : GoodIn wsX8_goes wsX8_doubleOf := goodIn_r _ [5, 6, 7, 8, 9] (by decide +kernel) (by decide +kernel)
set_option maxRecDepth 20000 in
theorem gX8_goes_X8_doubleOf : GoodIn wsX8_goes (va_wsS RX8 108 yX8_doubleOf wsX8_doubleOf) := goodIn_app (goodIn_of _ (by decide +kernel)) ggX8_goes_X8_doubleOf
set_option maxRecDepth 20000 in
theorem ggX8_goes_X8_goesDouble : GoodIn wsX8_goes wsX8_goesDouble := goodIn_r _ [13, 14, 15, 16, 17, 18, 4, 19, 20, 21, 40, 41, 42, 43, 44, 45, 46, 47, 48, 49, 50, 51, 52, 53, 54, 55, 56, 57, 58, 59] (by decide +kernel) (by decide +kernel)
set_option maxRecDepth 20000 in
theorem gX8_goes_X8_goesDouble : GoodIn wsX8_goes (wsV RX8 123 RX8 yX8_goesDouble wsX8_goesDouble) := goodIn_app (goodIn_of _ (by decide +kernel)) ggX8_goes_X8_goesDouble
set_option maxRecDepth 20000 in
theorem ggX8_goes_X8_floatOf : GoodIn wsX8_goes wsX8_floatOf := goodIn_r _ [24, 25, 26, 27, 28] (by decide +kernel) (by decide +kernel)
set_option maxRecDepth 20000 in
theorem gX8_goes_X8_floatOf : GoodIn wsX8_goes (va_wsS RX8 111 yX8_floatOf wsX8_floatOf) := goodIn_app (goodIn_of _ (by decide +kernel)) ggX8_goes_X8_floatOf
set_option maxRecDepth 20000 in
theorem ggX8_goes_X8_goesFloat : GoodIn wsX8_goes wsX8_goesFloat := goodIn_r _ [32, 33, 15, 34, 35, 36, 4, 37, 38, 39, 40, 41, 42, 43, 44, 45, 46, 47, 48, 49, 50, 51, 52, 53, 54, 55, 56, 57, 58, 59] (by decide +kernel) (by decide +kernel)
set_option maxRecDepth 20000 in
theorem gX8_goes_X8_goesFloat : GoodIn wsX8_goes (wsV RX8 127 RX8 yX8_goesFloat wsX8_goesFloat) := goodIn_app (goodIn_of _ (by decide +kernel)) ggX8_goes_X8_goesFloat
theorem dX8_goes_0 : decode cX8_goes 0 = .ok (.aload_n 0, 1) := by decide +kernel
theorem dX8_goes_1 : decode cX8_goes 1 = .ok (.getfield 7, 3) := by decide +kernel
theorem dX8_goes_4 : decode cX8_goes 4 = .ok (.iload_n 1, 1) := by decide +kernel
theorem dX8_goes_5 : decode cX8_goes 5 = .ok (.baload, 1) := by decide +kernel
theorem dX8_goes_6 : decode cX8_goes 6 = .ok (.ifCond .eq 15, 3) := by decide +kernel
theorem dX8_goes_9 : decode cX8_goes 9 = .ok (.aload_n 0, 1) := by decide +kernel
theorem dX8_goes_10 : decode cX8_goes 10 = .ok (.iload_n 1, 1) := by decide +kernel
theorem dX8_goes_11 : decode cX8_goes 11 = .ok (.lload_n 2, 1) := by decide +kernel
theorem dX8_goes_12 : decode cX8_goes 12 = .ok (.invokestatic 108, 3) := by decide +kernel
theorem dX8_goes_15 : decode cX8_goes 15 = .ok (.invokevirtual 123, 3) := by decide +kernel
theorem dX8_goes_18 : decode cX8_goes 18 = .ok (.goto 12, 3) := by decide +kernel
theorem dX8_goes_21 : decode cX8_goes 21 = .ok (.aload_n 0, 1) := by decide +kernel
theorem dX8_goes_22 : decode cX8_goes 22 = .ok (.iload_n 1, 1) := by decide +kernel
theorem dX8_goes_23 : decode cX8_goes 23 = .ok (.lload_n 2, 1) := by decide +kernel
theorem dX8_goes_24 : decode cX8_goes 24 = .ok (.invokestatic 111, 3) := by decide +kernel
theorem dX8_goes_27 : decode cX8_goes 27 = .ok (.invokevirtual 127, 3) := by decide +kernel
theorem dX8_goes_30 : decode cX8_goes 30 = .ok (.ireturn, 1) := by decide +kernel
set_option maxRecDepth 20000 in
theorem ggX8_turn_X8_isDial : GoodIn wsX8_turn wsX8_isDial := goodIn_r _ [6, 7, 8, 9, 5, 10, 73, 74, 75, 76, 77, 78, 79, 80, 81, 82, 83, 84, 85, 86, 87, 88, 89, 90, 91, 92] (by decide +kernel) (by decide +kernel)
set_option maxRecDepth 20000 in
theorem gX8_turn_X8_isDial : GoodIn wsX8_turn (wsV RX8 131 RX8 yX8_isDial wsX8_isDial) := goodIn_app (goodIn_of _ (by decide +kernel)) ggX8_turn_X8_isDial
set_option maxRecDepth 20000 in
theorem ggX8_turn_X8_isFit : GoodIn wsX8_turn wsX8_isFit := goodIn_r _ [13, 14, 15, 5, 16, 17, 18, 19, 20, 21] (by decide +kernel) (by decide +kernel)
set_option maxRecDepth 20000 in
theorem gX8_turn_X8_isFit : GoodIn wsX8_turn (va_wsS RX8 104 yX8_isFit wsX8_isFit) := goodIn_app (goodIn_of _ (by decide +kernel)) ggX8_turn_X8_isFit
set_option maxRecDepth 20000 in
theorem ggX8_turn_X8_goes : GoodIn wsX8_turn wsX8_goes := goodIn_r _ [25, 1, 26, 27, 5, 28, 29, 30, 31, 32, 33, 34, 35, 36, 37, 38, 39, 40, 41, 42, 43, 44, 45, 46, 47, 48, 49, 50, 51, 52, 53, 54, 55, 56, 57, 58, 59, 60, 61, 62, 73, 74, 75, 76, 77, 78, 79, 80, 81, 82, 83, 84, 85, 86, 87, 88, 89, 90, 91, 92] (by decide +kernel) (by decide +kernel)
set_option maxRecDepth 20000 in
theorem gX8_turn_X8_goes : GoodIn wsX8_turn (wsV RX8 135 RX8 yX8_goes wsX8_goes) := goodIn_app (goodIn_of _ (by decide +kernel)) ggX8_turn_X8_goes
set_option maxRecDepth 20000 in
theorem ggX8_turn_X8_done : GoodIn wsX8_turn wsX8_done := goodIn_r _ [66, 67, 73, 74, 75, 76, 77, 78, 79, 80, 81, 82, 83, 84, 85, 86, 87, 88, 89, 90, 91, 92] (by decide +kernel) (by decide +kernel)
set_option maxRecDepth 20000 in
theorem gX8_turn_X8_done : GoodIn wsX8_turn (wsV RX8 139 RX8 yX8_done wsX8_done) := goodIn_app (goodIn_of _ (by decide +kernel)) ggX8_turn_X8_done
set_option maxRecDepth 20000 in
theorem ggX8_turn_X8_fails : GoodIn wsX8_turn wsX8_fails := goodIn_r _ [71, 67, 72, 73, 74, 75, 76, 77, 78, 79, 80, 81, 82, 83, 84, 85, 86, 87, 88, 89, 90, 91, 92] (by decide +kernel) (by decide +kernel)
set_option maxRecDepth 20000 in
theorem gX8_turn_X8_fails : GoodIn wsX8_turn (wsV RX8 143 RX8 yX8_fails wsX8_fails) := goodIn_app (goodIn_of _ (by decide +kernel)) ggX8_turn_X8_fails
theorem dX8_turn_0 : decode cX8_turn 0 = .ok (.aload_n 0, 1) := by decide +kernel
theorem dX8_turn_1 : decode cX8_turn 1 = .ok (.iload_n 1, 1) := by decide +kernel
theorem dX8_turn_2 : decode cX8_turn 2 = .ok (.invokevirtual 131, 3) := by decide +kernel
theorem dX8_turn_5 : decode cX8_turn 5 = .ok (.ifCond .ne 6, 3) := by decide +kernel
theorem dX8_turn_8 : decode cX8_turn 8 = .ok (.bipush (-101), 2) := by decide +kernel
theorem dX8_turn_10 : decode cX8_turn 10 = .ok (.ireturn, 1) := by decide +kernel
theorem dX8_turn_11 : decode cX8_turn 11 = .ok (.aload_n 0, 1) := by decide +kernel
theorem dX8_turn_12 : decode cX8_turn 12 = .ok (.getfield 7, 3) := by decide +kernel
theorem dX8_turn_15 : decode cX8_turn 15 = .ok (.iload_n 1, 1) := by decide +kernel
theorem dX8_turn_16 : decode cX8_turn 16 = .ok (.baload, 1) := by decide +kernel
theorem dX8_turn_17 : decode cX8_turn 17 = .ok (.lload_n 2, 1) := by decide +kernel
theorem dX8_turn_18 : decode cX8_turn 18 = .ok (.invokestatic 104, 3) := by decide +kernel
theorem dX8_turn_21 : decode cX8_turn 21 = .ok (.ifCond .ne 6, 3) := by decide +kernel
theorem dX8_turn_24 : decode cX8_turn 24 = .ok (.bipush (-102), 2) := by decide +kernel
theorem dX8_turn_26 : decode cX8_turn 26 = .ok (.ireturn, 1) := by decide +kernel
theorem dX8_turn_27 : decode cX8_turn 27 = .ok (.aload_n 0, 1) := by decide +kernel
theorem dX8_turn_28 : decode cX8_turn 28 = .ok (.iload_n 1, 1) := by decide +kernel
theorem dX8_turn_29 : decode cX8_turn 29 = .ok (.lload_n 2, 1) := by decide +kernel
theorem dX8_turn_30 : decode cX8_turn 30 = .ok (.invokevirtual 135, 3) := by decide +kernel
theorem dX8_turn_33 : decode cX8_turn 33 = .ok (.ifCond .eq 11, 3) := by decide +kernel
theorem dX8_turn_36 : decode cX8_turn 36 = .ok (.aload_n 0, 1) := by decide +kernel
theorem dX8_turn_37 : decode cX8_turn 37 = .ok (.iconst 1, 1) := by decide +kernel
theorem dX8_turn_38 : decode cX8_turn 38 = .ok (.invokevirtual 139, 3) := by decide +kernel
theorem dX8_turn_41 : decode cX8_turn 41 = .ok (.goto 9, 3) := by decide +kernel
theorem dX8_turn_44 : decode cX8_turn 44 = .ok (.aload_n 0, 1) := by decide +kernel
theorem dX8_turn_45 : decode cX8_turn 45 = .ok (.bipush (-15), 2) := by decide +kernel
theorem dX8_turn_47 : decode cX8_turn 47 = .ok (.invokevirtual 143, 3) := by decide +kernel
theorem dX8_turn_50 : decode cX8_turn 50 = .ok (.ireturn, 1) := by decide +kernel
set_option maxRecDepth 20000 in
theorem ggX8_spin_X8_isDial : GoodIn wsX8_spin wsX8_isDial := goodIn_r _ [8, 9, 10, 11, 7, 12, 70, 71, 72, 73, 74, 75, 76, 77, 78, 79, 80, 81, 82, 83, 84, 85, 86, 87, 88, 89] (by decide +kernel) (by decide +kernel)
set_option maxRecDepth 20000 in
theorem gX8_spin_X8_isDial : GoodIn wsX8_spin (wsV RX8 131 RX8 yX8_isDial wsX8_isDial) := goodIn_app (goodIn_of _ (by decide +kernel)) ggX8_spin_X8_isDial
set_option maxRecDepth 20000 in
theorem ggX8_spin_X8_isFit : GoodIn wsX8_spin wsX8_isFit := goodIn_r _ [15, 16, 17, 7, 18, 19, 20, 21, 22, 23] (by decide +kernel) (by decide +kernel)
set_option maxRecDepth 20000 in
theorem gX8_spin_X8_isFit : GoodIn wsX8_spin (va_wsS RX8 104 yX8_isFit wsX8_isFit) := goodIn_app (goodIn_of _ (by decide +kernel)) ggX8_spin_X8_isFit
set_option maxRecDepth 20000 in
theorem ggX8_spin_X8_in : GoodIn wsX8_spin wsX8_in := goodIn_r _ [12] (by decide +kernel) (by decide +kernel)
set_option maxRecDepth 20000 in
theorem gX8_spin_X8_in : GoodIn wsX8_spin (va_wsS RX8 100 yX8_in wsX8_in) := goodIn_app (goodIn_of _ (by decide +kernel)) ggX8_spin_X8_in
set_option maxRecDepth 20000 in
theorem ggX8_spin_X8_goes : GoodIn wsX8_spin wsX8_goes := goodIn_r _ [27, 1, 28, 29, 7, 30, 31, 32, 33, 34, 35, 36, 37, 38, 39, 40, 41, 42, 43, 44, 45, 46, 47, 48, 49, 50, 51, 52, 53, 54, 55, 56, 57, 58, 59, 60, 61, 62, 63, 64, 70, 71, 72, 73, 74, 75, 76, 77, 78, 79, 80, 81, 82, 83, 84, 85, 86, 87, 88, 89] (by decide +kernel) (by decide +kernel)
set_option maxRecDepth 20000 in
theorem gX8_spin_X8_goes : GoodIn wsX8_spin (wsV RX8 135 RX8 yX8_goes wsX8_goes) := goodIn_app (goodIn_of _ (by decide +kernel)) ggX8_spin_X8_goes
set_option maxRecDepth 20000 in
theorem ggX8_spin_X8_fails : GoodIn wsX8_spin wsX8_fails := goodIn_r _ [68, 3, 69, 70, 71, 72, 73, 74, 75, 76, 77, 78, 79, 80, 81, 82, 83, 84, 85, 86, 87, 88, 89] (by decide +kernel) (by decide +kernel)
set_option maxRecDepth 20000 in
theorem gX8_spin_X8_fails : GoodIn wsX8_spin (wsV RX8 143 RX8 yX8_fails wsX8_fails) := goodIn_app (goodIn_of _ (by decide +kernel)) ggX8_spin_X8_fails
theorem dX8_spin_0 : decode cX8_spin 0 = .ok (.aload_n 0, 1) := by decide +kernel
theorem dX8_spin_1 : decode cX8_spin 1 = .ok (.iload_n 1, 1) := by decide +kernel
theorem dX8_spin_2 : decode cX8_spin 2 = .ok (.invokevirtual 131, 3) := by decide +kernel
theorem dX8_spin_5 : decode cX8_spin 5 = .ok (.ifCond .ne 6, 3) := by decide +kernel
theorem dX8_spin_8 : decode cX8_spin 8 = .ok (.bipush (-101), 2) := by decide +kernel
theorem dX8_spin_10 : decode cX8_spin 10 = .ok (.ireturn, 1) := by decide +kernel
theorem dX8_spin_11 : decode cX8_spin 11 = .ok (.aload_n 0, 1) := by decide +kernel
theorem dX8_spin_12 : decode cX8_spin 12 = .ok (.getfield 7, 3) := by decide +kernel
theorem dX8_spin_15 : decode cX8_spin 15 = .ok (.iload_n 1, 1) := by decide +kernel
theorem dX8_spin_16 : decode cX8_spin 16 = .ok (.baload, 1) := by decide +kernel
theorem dX8_spin_17 : decode cX8_spin 17 = .ok (.lload_n 2, 1) := by decide +kernel
theorem dX8_spin_18 : decode cX8_spin 18 = .ok (.invokestatic 104, 3) := by decide +kernel
theorem dX8_spin_21 : decode cX8_spin 21 = .ok (.ifCond .eq 16, 3) := by decide +kernel
theorem dX8_spin_24 : decode cX8_spin 24 = .ok (.iload 4, 2) := by decide +kernel
theorem dX8_spin_26 : decode cX8_spin 26 = .ok (.i2l, 1) := by decide +kernel
theorem dX8_spin_27 : decode cX8_spin 27 = .ok (.lconst 0, 1) := by decide +kernel
theorem dX8_spin_28 : decode cX8_spin 28 = .ok (.ldc2_w 146, 3) := by decide +kernel
theorem dX8_spin_31 : decode cX8_spin 31 = .ok (.invokestatic 100, 3) := by decide +kernel
theorem dX8_spin_34 : decode cX8_spin 34 = .ok (.ifCond .ne 6, 3) := by decide +kernel
theorem dX8_spin_37 : decode cX8_spin 37 = .ok (.bipush (-102), 2) := by decide +kernel
theorem dX8_spin_39 : decode cX8_spin 39 = .ok (.ireturn, 1) := by decide +kernel
theorem dX8_spin_40 : decode cX8_spin 40 = .ok (.aload_n 0, 1) := by decide +kernel
theorem dX8_spin_41 : decode cX8_spin 41 = .ok (.iconst 0, 1) := by decide +kernel
theorem dX8_spin_42 : decode cX8_spin 42 = .ok (.putfield 66, 3) := by decide +kernel
theorem dX8_spin_45 : decode cX8_spin 45 = .ok (.iconst 0, 1) := by decide +kernel
theorem dX8_spin_46 : decode cX8_spin 46 = .ok (.istore 5, 2) := by decide +kernel
theorem dX8_spin_48 : decode cX8_spin 48 = .ok (.iload 5, 2) := by decide +kernel
theorem dX8_spin_50 : decode cX8_spin 50 = .ok (.iload 4, 2) := by decide +kernel
theorem dX8_spin_52 : decode cX8_spin 52 = .ok (.if_icmp .ge 29, 3) := by decide +kernel
theorem dX8_spin_55 : decode cX8_spin 55 = .ok (.aload_n 0, 1) := by decide +kernel
theorem dX8_spin_56 : decode cX8_spin 56 = .ok (.iload_n 1, 1) := by decide +kernel
theorem dX8_spin_57 : decode cX8_spin 57 = .ok (.lload_n 2, 1) := by decide +kernel
theorem dX8_spin_58 : decode cX8_spin 58 = .ok (.invokevirtual 135, 3) := by decide +kernel
theorem dX8_spin_61 : decode cX8_spin 61 = .ok (.ifCond .ne 14, 3) := by decide +kernel
theorem dX8_spin_64 : decode cX8_spin 64 = .ok (.aload_n 0, 1) := by decide +kernel
theorem dX8_spin_65 : decode cX8_spin 65 = .ok (.bipush (-15), 2) := by decide +kernel
theorem dX8_spin_67 : decode cX8_spin 67 = .ok (.invokevirtual 143, 3) := by decide +kernel
theorem dX8_spin_70 : decode cX8_spin 70 = .ok (.istore 6, 2) := by decide +kernel
theorem dX8_spin_72 : decode cX8_spin 72 = .ok (.iload 5, 2) := by decide +kernel
theorem dX8_spin_74 : decode cX8_spin 74 = .ok (.ireturn, 1) := by decide +kernel
theorem dX8_spin_75 : decode cX8_spin 75 = .ok (.iinc 5 1, 3) := by decide +kernel
theorem dX8_spin_78 : decode cX8_spin 78 = .ok (.goto (-30), 3) := by decide +kernel
theorem dX8_spin_81 : decode cX8_spin 81 = .ok (.iload 4, 2) := by decide +kernel
theorem dX8_spin_83 : decode cX8_spin 83 = .ok (.ireturn, 1) := by decide +kernel
set_option maxRecDepth 20000 in
theorem ggX8_place_X8_isDial : GoodIn wsX8_place wsX8_isDial := goodIn_r _ [10, 11, 12, 13, 9, 14, 39, 40, 41, 42, 43, 44, 45, 46, 47, 48, 49, 50, 51, 52, 53, 54, 55, 56, 57, 58] (by decide +kernel) (by decide +kernel)
set_option maxRecDepth 20000 in
theorem gX8_place_X8_isDial : GoodIn wsX8_place (wsV RX8 131 RX8 yX8_isDial wsX8_isDial) := goodIn_app (goodIn_of _ (by decide +kernel)) ggX8_place_X8_isDial
set_option maxRecDepth 20000 in
theorem ggX8_place_X8_in : GoodIn wsX8_place wsX8_in := goodIn_r _ [14] (by decide +kernel) (by decide +kernel)
set_option maxRecDepth 20000 in
theorem gX8_place_X8_in : GoodIn wsX8_place (va_wsS RX8 100 yX8_in wsX8_in) := goodIn_app (goodIn_of _ (by decide +kernel)) ggX8_place_X8_in
set_option maxRecDepth 20000 in
theorem ggX8_place_Jxe99ae_doubleToLongBits_ccdee : GoodIn wsX8_place wsJxe99ae_doubleToLongBits_ccdee := goodIn_r _ [18, 19, 20, 21, 22, 23, 24, 25, 17, 26] (by decide +kernel) (by decide +kernel)
set_option maxRecDepth 20000 in
theorem gX8_place_Jxe99ae_doubleToLongBits_ccdee : GoodIn wsX8_place (va_wsS RX8 148 yJxe99ae_doubleToLongBits_ccdee wsJxe99ae_doubleToLongBits_ccdee) := goodIn_app (goodIn_of _ (by decide +kernel)) ggX8_place_Jxe99ae_doubleToLongBits_ccdee
set_option maxRecDepth 20000 in
theorem ggX8_place_Jxf58ca_floatToIntBits_5c35a : GoodIn wsX8_place wsJxf58ca_floatToIntBits_5c35a := goodIn_r _ [30, 31, 32, 33, 34, 35, 36, 37, 29, 38] (by decide +kernel) (by decide +kernel)
set_option maxRecDepth 20000 in
theorem gX8_place_Jxf58ca_floatToIntBits_5c35a : GoodIn wsX8_place (va_wsS RX8 152 yJxf58ca_floatToIntBits_5c35a wsJxf58ca_floatToIntBits_5c35a) := goodIn_app (goodIn_of _ (by decide +kernel)) ggX8_place_Jxf58ca_floatToIntBits_5c35a
theorem dX8_place_0 : decode cX8_place 0 = .ok (.aload_n 0, 1) := by decide +kernel
theorem dX8_place_1 : decode cX8_place 1 = .ok (.iload_n 1, 1) := by decide +kernel
theorem dX8_place_2 : decode cX8_place 2 = .ok (.invokevirtual 131, 3) := by decide +kernel
theorem dX8_place_5 : decode cX8_place 5 = .ok (.ifCond .eq 13, 3) := by decide +kernel
theorem dX8_place_8 : decode cX8_place 8 = .ok (.iload_n 2, 1) := by decide +kernel
theorem dX8_place_9 : decode cX8_place 9 = .ok (.i2l, 1) := by decide +kernel
theorem dX8_place_10 : decode cX8_place 10 = .ok (.lconst 0, 1) := by decide +kernel
theorem dX8_place_11 : decode cX8_place 11 = .ok (.lconst 1, 1) := by decide +kernel
theorem dX8_place_12 : decode cX8_place 12 = .ok (.invokestatic 100, 3) := by decide +kernel
theorem dX8_place_15 : decode cX8_place 15 = .ok (.ifCond .ne 5, 3) := by decide +kernel
theorem dX8_place_18 : decode cX8_place 18 = .ok (.lconst 0, 1) := by decide +kernel
theorem dX8_place_19 : decode cX8_place 19 = .ok (.lreturn, 1) := by decide +kernel
theorem dX8_place_20 : decode cX8_place 20 = .ok (.aload_n 0, 1) := by decide +kernel
theorem dX8_place_21 : decode cX8_place 21 = .ok (.getfield 7, 3) := by decide +kernel
theorem dX8_place_24 : decode cX8_place 24 = .ok (.iload_n 1, 1) := by decide +kernel
theorem dX8_place_25 : decode cX8_place 25 = .ok (.baload, 1) := by decide +kernel
theorem dX8_place_26 : decode cX8_place 26 = .ok (.ifCond .eq 26, 3) := by decide +kernel
theorem dX8_place_29 : decode cX8_place 29 = .ok (.iload_n 2, 1) := by decide +kernel
theorem dX8_place_30 : decode cX8_place 30 = .ok (.ifCond .ne 12, 3) := by decide +kernel
theorem dX8_place_33 : decode cX8_place 33 = .ok (.aload_n 0, 1) := by decide +kernel
theorem dX8_place_34 : decode cX8_place 34 = .ok (.getfield 24, 3) := by decide +kernel
theorem dX8_place_37 : decode cX8_place 37 = .ok (.iload_n 1, 1) := by decide +kernel
theorem dX8_place_38 : decode cX8_place 38 = .ok (.daload, 1) := by decide +kernel
theorem dX8_place_39 : decode cX8_place 39 = .ok (.goto 9, 3) := by decide +kernel
theorem dX8_place_42 : decode cX8_place 42 = .ok (.aload_n 0, 1) := by decide +kernel
theorem dX8_place_43 : decode cX8_place 43 = .ok (.getfield 20, 3) := by decide +kernel
theorem dX8_place_46 : decode cX8_place 46 = .ok (.iload_n 1, 1) := by decide +kernel
theorem dX8_place_47 : decode cX8_place 47 = .ok (.daload, 1) := by decide +kernel
theorem dX8_place_48 : decode cX8_place 48 = .ok (.invokestatic 148, 3) := by decide +kernel
theorem dX8_place_51 : decode cX8_place 51 = .ok (.lreturn, 1) := by decide +kernel
theorem dX8_place_52 : decode cX8_place 52 = .ok (.iload_n 2, 1) := by decide +kernel
theorem dX8_place_53 : decode cX8_place 53 = .ok (.ifCond .ne 12, 3) := by decide +kernel
theorem dX8_place_56 : decode cX8_place 56 = .ok (.aload_n 0, 1) := by decide +kernel
theorem dX8_place_57 : decode cX8_place 57 = .ok (.getfield 17, 3) := by decide +kernel
theorem dX8_place_60 : decode cX8_place 60 = .ok (.iload_n 1, 1) := by decide +kernel
theorem dX8_place_61 : decode cX8_place 61 = .ok (.faload, 1) := by decide +kernel
theorem dX8_place_62 : decode cX8_place 62 = .ok (.goto 9, 3) := by decide +kernel
theorem dX8_place_65 : decode cX8_place 65 = .ok (.aload_n 0, 1) := by decide +kernel
theorem dX8_place_66 : decode cX8_place 66 = .ok (.getfield 13, 3) := by decide +kernel
theorem dX8_place_69 : decode cX8_place 69 = .ok (.iload_n 1, 1) := by decide +kernel
theorem dX8_place_70 : decode cX8_place 70 = .ok (.faload, 1) := by decide +kernel
theorem dX8_place_71 : decode cX8_place 71 = .ok (.invokestatic 152, 3) := by decide +kernel
theorem dX8_place_74 : decode cX8_place 74 = .ok (.i2l, 1) := by decide +kernel
theorem dX8_place_75 : decode cX8_place 75 = .ok (.lreturn, 1) := by decide +kernel
set_option maxRecDepth 20000 in
theorem ggX8_laps_X8_isDial : GoodIn wsX8_laps wsX8_isDial := goodIn_r _ [6, 7, 8, 9, 5, 10, 11, 12, 13, 14, 15, 16, 17, 18, 19, 20, 21, 22, 23, 24, 25, 26, 27, 28, 29, 30] (by decide +kernel) (by decide +kernel)
set_option maxRecDepth 20000 in
theorem gX8_laps_X8_isDial : GoodIn wsX8_laps (wsV RX8 131 RX8 yX8_isDial wsX8_isDial) := goodIn_app (goodIn_of _ (by decide +kernel)) ggX8_laps_X8_isDial
theorem dX8_laps_0 : decode cX8_laps 0 = .ok (.aload_n 0, 1) := by decide +kernel
theorem dX8_laps_1 : decode cX8_laps 1 = .ok (.iload_n 1, 1) := by decide +kernel
theorem dX8_laps_2 : decode cX8_laps 2 = .ok (.invokevirtual 131, 3) := by decide +kernel
theorem dX8_laps_5 : decode cX8_laps 5 = .ok (.ifCond .eq 12, 3) := by decide +kernel
theorem dX8_laps_8 : decode cX8_laps 8 = .ok (.aload_n 0, 1) := by decide +kernel
theorem dX8_laps_9 : decode cX8_laps 9 = .ok (.getfield 27, 3) := by decide +kernel
theorem dX8_laps_12 : decode cX8_laps 12 = .ok (.iload_n 1, 1) := by decide +kernel
theorem dX8_laps_13 : decode cX8_laps 13 = .ok (.laload, 1) := by decide +kernel
theorem dX8_laps_14 : decode cX8_laps 14 = .ok (.goto 4, 3) := by decide +kernel
theorem dX8_laps_17 : decode cX8_laps 17 = .ok (.lconst 0, 1) := by decide +kernel
theorem dX8_laps_18 : decode cX8_laps 18 = .ok (.lreturn, 1) := by decide +kernel
set_option maxRecDepth 20000 in
theorem ggX8_fine_X8_isDial : GoodIn wsX8_fine wsX8_isDial := goodIn_r _ [6, 7, 8, 9, 5, 10, 11, 12, 13, 14, 15, 16, 17, 18, 19, 20, 21, 22, 23, 24, 25, 26, 27, 28, 29, 30] (by decide +kernel) (by decide +kernel)
set_option maxRecDepth 20000 in
theorem gX8_fine_X8_isDial : GoodIn wsX8_fine (wsV RX8 131 RX8 yX8_isDial wsX8_isDial) := goodIn_app (goodIn_of _ (by decide +kernel)) ggX8_fine_X8_isDial
theorem dX8_fine_0 : decode cX8_fine 0 = .ok (.aload_n 0, 1) := by decide +kernel
theorem dX8_fine_1 : decode cX8_fine 1 = .ok (.iload_n 1, 1) := by decide +kernel
theorem dX8_fine_2 : decode cX8_fine 2 = .ok (.invokevirtual 131, 3) := by decide +kernel
theorem dX8_fine_5 : decode cX8_fine 5 = .ok (.ifCond .ne 8, 3) := by decide +kernel
theorem dX8_fine_8 : decode cX8_fine 8 = .ok (.bipush (-101), 2) := by decide +kernel
theorem dX8_fine_10 : decode cX8_fine 10 = .ok (.goto 17, 3) := by decide +kernel
theorem dX8_fine_13 : decode cX8_fine 13 = .ok (.aload_n 0, 1) := by decide +kernel
theorem dX8_fine_14 : decode cX8_fine 14 = .ok (.getfield 7, 3) := by decide +kernel
theorem dX8_fine_17 : decode cX8_fine 17 = .ok (.iload_n 1, 1) := by decide +kernel
theorem dX8_fine_18 : decode cX8_fine 18 = .ok (.baload, 1) := by decide +kernel
theorem dX8_fine_19 : decode cX8_fine 19 = .ok (.ifCond .eq 7, 3) := by decide +kernel
theorem dX8_fine_22 : decode cX8_fine 22 = .ok (.iconst 1, 1) := by decide +kernel
theorem dX8_fine_23 : decode cX8_fine 23 = .ok (.goto 4, 3) := by decide +kernel
theorem dX8_fine_26 : decode cX8_fine 26 = .ok (.iconst 0, 1) := by decide +kernel
theorem dX8_fine_27 : decode cX8_fine 27 = .ok (.ireturn, 1) := by decide +kernel
set_option maxRecDepth 20000 in
theorem ggX8_isDrive_X8_in : GoodIn wsX8_isDrive wsX8_in := goodIn_r _ [5] (by decide +kernel) (by decide +kernel)
set_option maxRecDepth 20000 in
theorem gX8_isDrive_X8_in : GoodIn wsX8_isDrive (va_wsS RX8 100 yX8_in wsX8_in) := goodIn_app (goodIn_of _ (by decide +kernel)) ggX8_isDrive_X8_in
theorem dX8_isDrive_0 : decode cX8_isDrive 0 = .ok (.iload_n 1, 1) := by decide +kernel
theorem dX8_isDrive_1 : decode cX8_isDrive 1 = .ok (.i2l, 1) := by decide +kernel
theorem dX8_isDrive_2 : decode cX8_isDrive 2 = .ok (.lconst 0, 1) := by decide +kernel
theorem dX8_isDrive_3 : decode cX8_isDrive 3 = .ok (.aload_n 0, 1) := by decide +kernel
theorem dX8_isDrive_4 : decode cX8_isDrive 4 = .ok (.getfield 156, 3) := by decide +kernel
theorem dX8_isDrive_7 : decode cX8_isDrive 7 = .ok (.i2l, 1) := by decide +kernel
theorem dX8_isDrive_8 : decode cX8_isDrive 8 = .ok (.lconst 1, 1) := by decide +kernel
theorem dX8_isDrive_9 : decode cX8_isDrive 9 = .ok (.lsub, 1) := by decide +kernel
theorem dX8_isDrive_10 : decode cX8_isDrive 10 = .ok (.invokestatic 100, 3) := by decide +kernel
theorem dX8_isDrive_13 : decode cX8_isDrive 13 = .ok (.ireturn, 1) := by decide +kernel
set_option maxRecDepth 20000 in
theorem ggX8_isSlot_X8_in : GoodIn wsX8_isSlot wsX8_in := goodIn_r _ [5] (by decide +kernel) (by decide +kernel)
set_option maxRecDepth 20000 in
theorem gX8_isSlot_X8_in : GoodIn wsX8_isSlot (va_wsS RX8 100 yX8_in wsX8_in) := goodIn_app (goodIn_of _ (by decide +kernel)) ggX8_isSlot_X8_in
theorem dX8_isSlot_0 : decode cX8_isSlot 0 = .ok (.iload_n 0, 1) := by decide +kernel
theorem dX8_isSlot_1 : decode cX8_isSlot 1 = .ok (.i2l, 1) := by decide +kernel
theorem dX8_isSlot_2 : decode cX8_isSlot 2 = .ok (.lconst 0, 1) := by decide +kernel
theorem dX8_isSlot_3 : decode cX8_isSlot 3 = .ok (.ldc2_w 159, 3) := by decide +kernel
theorem dX8_isSlot_6 : decode cX8_isSlot 6 = .ok (.invokestatic 100, 3) := by decide +kernel
theorem dX8_isSlot_9 : decode cX8_isSlot 9 = .ok (.ireturn, 1) := by decide +kernel
set_option maxRecDepth 20000 in
theorem ggX8_isShaft_X8_in : GoodIn wsX8_isShaft wsX8_in := goodIn_r _ [4] (by decide +kernel) (by decide +kernel)
set_option maxRecDepth 20000 in
theorem gX8_isShaft_X8_in : GoodIn wsX8_isShaft (va_wsS RX8 100 yX8_in wsX8_in) := goodIn_app (goodIn_of _ (by decide +kernel)) ggX8_isShaft_X8_in
theorem dX8_isShaft_0 : decode cX8_isShaft 0 = .ok (.iload_n 0, 1) := by decide +kernel
theorem dX8_isShaft_1 : decode cX8_isShaft 1 = .ok (.i2l, 1) := by decide +kernel
theorem dX8_isShaft_2 : decode cX8_isShaft 2 = .ok (.lconst 0, 1) := by decide +kernel
theorem dX8_isShaft_3 : decode cX8_isShaft 3 = .ok (.lconst 1, 1) := by decide +kernel
theorem dX8_isShaft_4 : decode cX8_isShaft 4 = .ok (.invokestatic 100, 3) := by decide +kernel
theorem dX8_isShaft_7 : decode cX8_isShaft 7 = .ok (.ireturn, 1) := by decide +kernel
set_option maxRecDepth 20000 in
theorem ggX8_drive_X8_in : GoodIn wsX8_drive wsX8_in := goodIn_r _ [10] (by decide +kernel) (by decide +kernel)
set_option maxRecDepth 20000 in
theorem gX8_drive_X8_in : GoodIn wsX8_drive (va_wsS RX8 100 yX8_in wsX8_in) := goodIn_app (goodIn_of _ (by decide +kernel)) ggX8_drive_X8_in
set_option maxRecDepth 20000 in
theorem ggX8_drive_X8_isFitDouble : GoodIn wsX8_drive wsX8_isFitDouble := goodIn_r _ [13, 14] (by decide +kernel) (by decide +kernel)
set_option maxRecDepth 20000 in
theorem gX8_drive_X8_isFitDouble : GoodIn wsX8_drive (va_wsS RX8 72 yX8_isFitDouble wsX8_isFitDouble) := goodIn_app (goodIn_of _ (by decide +kernel)) ggX8_drive_X8_isFitDouble
set_option maxRecDepth 20000 in
theorem ggX8_drive_X8_doubleOf : GoodIn wsX8_drive wsX8_doubleOf := goodIn_r _ [17, 18, 19, 20, 21] (by decide +kernel) (by decide +kernel)
set_option maxRecDepth 20000 in
theorem gX8_drive_X8_doubleOf : GoodIn wsX8_drive (va_wsS RX8 108 yX8_doubleOf wsX8_doubleOf) := goodIn_app (goodIn_of _ (by decide +kernel)) ggX8_drive_X8_doubleOf
theorem dX8_drive_0 : decode cX8_drive 0 = .ok (.iload_n 1, 1) := by decide +kernel
theorem dX8_drive_1 : decode cX8_drive 1 = .ok (.i2l, 1) := by decide +kernel
theorem dX8_drive_2 : decode cX8_drive 2 = .ok (.lconst 0, 1) := by decide +kernel
theorem dX8_drive_3 : decode cX8_drive 3 = .ok (.ldc2_w 161, 3) := by decide +kernel
theorem dX8_drive_6 : decode cX8_drive 6 = .ok (.invokestatic 100, 3) := by decide +kernel
theorem dX8_drive_9 : decode cX8_drive 9 = .ok (.ifCond .eq 10, 3) := by decide +kernel
theorem dX8_drive_12 : decode cX8_drive 12 = .ok (.lload_n 2, 1) := by decide +kernel
theorem dX8_drive_13 : decode cX8_drive 13 = .ok (.invokestatic 72, 3) := by decide +kernel
theorem dX8_drive_16 : decode cX8_drive 16 = .ok (.ifCond .ne 6, 3) := by decide +kernel
theorem dX8_drive_19 : decode cX8_drive 19 = .ok (.bipush (-102), 2) := by decide +kernel
theorem dX8_drive_21 : decode cX8_drive 21 = .ok (.ireturn, 1) := by decide +kernel
theorem dX8_drive_22 : decode cX8_drive 22 = .ok (.aload_n 0, 1) := by decide +kernel
theorem dX8_drive_23 : decode cX8_drive 23 = .ok (.getfield 156, 3) := by decide +kernel
theorem dX8_drive_26 : decode cX8_drive 26 = .ok (.bipush 20, 2) := by decide +kernel
theorem dX8_drive_28 : decode cX8_drive 28 = .ok (.if_icmp .ne 6, 3) := by decide +kernel
theorem dX8_drive_31 : decode cX8_drive 31 = .ok (.bipush (-103), 2) := by decide +kernel
theorem dX8_drive_33 : decode cX8_drive 33 = .ok (.ireturn, 1) := by decide +kernel
theorem dX8_drive_34 : decode cX8_drive 34 = .ok (.aload_n 0, 1) := by decide +kernel
theorem dX8_drive_35 : decode cX8_drive 35 = .ok (.getfield 31, 3) := by decide +kernel
theorem dX8_drive_38 : decode cX8_drive 38 = .ok (.aload_n 0, 1) := by decide +kernel
theorem dX8_drive_39 : decode cX8_drive 39 = .ok (.getfield 156, 3) := by decide +kernel
theorem dX8_drive_42 : decode cX8_drive 42 = .ok (.iload_n 1, 1) := by decide +kernel
theorem dX8_drive_43 : decode cX8_drive 43 = .ok (.iastore, 1) := by decide +kernel
theorem dX8_drive_44 : decode cX8_drive 44 = .ok (.aload_n 0, 1) := by decide +kernel
theorem dX8_drive_45 : decode cX8_drive 45 = .ok (.getfield 35, 3) := by decide +kernel
theorem dX8_drive_48 : decode cX8_drive 48 = .ok (.aload_n 0, 1) := by decide +kernel
theorem dX8_drive_49 : decode cX8_drive 49 = .ok (.getfield 156, 3) := by decide +kernel
theorem dX8_drive_52 : decode cX8_drive 52 = .ok (.lload_n 2, 1) := by decide +kernel
theorem dX8_drive_53 : decode cX8_drive 53 = .ok (.invokestatic 108, 3) := by decide +kernel
theorem dX8_drive_56 : decode cX8_drive 56 = .ok (.dastore, 1) := by decide +kernel
theorem dX8_drive_57 : decode cX8_drive 57 = .ok (.aload_n 0, 1) := by decide +kernel
theorem dX8_drive_58 : decode cX8_drive 58 = .ok (.getfield 38, 3) := by decide +kernel
theorem dX8_drive_61 : decode cX8_drive 61 = .ok (.aload_n 0, 1) := by decide +kernel
theorem dX8_drive_62 : decode cX8_drive 62 = .ok (.getfield 156, 3) := by decide +kernel
theorem dX8_drive_65 : decode cX8_drive 65 = .ok (.iconst 1, 1) := by decide +kernel
theorem dX8_drive_66 : decode cX8_drive 66 = .ok (.iastore, 1) := by decide +kernel
theorem dX8_drive_67 : decode cX8_drive 67 = .ok (.aload_n 0, 1) := by decide +kernel
theorem dX8_drive_68 : decode cX8_drive 68 = .ok (.getfield 41, 3) := by decide +kernel
theorem dX8_drive_71 : decode cX8_drive 71 = .ok (.aload_n 0, 1) := by decide +kernel
theorem dX8_drive_72 : decode cX8_drive 72 = .ok (.getfield 156, 3) := by decide +kernel
theorem dX8_drive_75 : decode cX8_drive 75 = .ok (.iconst 0, 1) := by decide +kernel
theorem dX8_drive_76 : decode cX8_drive 76 = .ok (.iastore, 1) := by decide +kernel
theorem dX8_drive_77 : decode cX8_drive 77 = .ok (.aload_n 0, 1) := by decide +kernel
theorem dX8_drive_78 : decode cX8_drive 78 = .ok (.dup, 1) := by decide +kernel
theorem dX8_drive_79 : decode cX8_drive 79 = .ok (.getfield 156, 3) := by decide +kernel
theorem dX8_drive_82 : decode cX8_drive 82 = .ok (.iconst 1, 1) := by decide +kernel
theorem dX8_drive_83 : decode cX8_drive 83 = .ok (.iadd, 1) := by decide +kernel
theorem dX8_drive_84 : decode cX8_drive 84 = .ok (.putfield 156, 3) := by decide +kernel
theorem dX8_drive_87 : decode cX8_drive 87 = .ok (.aload_n 0, 1) := by decide +kernel
theorem dX8_drive_88 : decode cX8_drive 88 = .ok (.getfield 156, 3) := by decide +kernel
theorem dX8_drive_91 : decode cX8_drive 91 = .ok (.iconst 1, 1) := by decide +kernel
theorem dX8_drive_92 : decode cX8_drive 92 = .ok (.isub, 1) := by decide +kernel
theorem dX8_drive_93 : decode cX8_drive 93 = .ok (.ireturn, 1) := by decide +kernel
set_option maxRecDepth 20000 in
theorem ggX8_fit_X8_isSlot : GoodIn wsX8_fit wsX8_isSlot := goodIn_r _ [5, 6, 7, 8, 4, 9] (by decide +kernel) (by decide +kernel)
set_option maxRecDepth 20000 in
theorem gX8_fit_X8_isSlot : GoodIn wsX8_fit (va_wsS RX8 163 yX8_isSlot wsX8_isSlot) := goodIn_app (goodIn_of _ (by decide +kernel)) ggX8_fit_X8_isSlot
set_option maxRecDepth 20000 in
theorem ggX8_fit_X8_isDrive : GoodIn wsX8_fit wsX8_isDrive := goodIn_r _ [13, 14, 7, 8, 4, 9, 15, 16, 17, 18, 19, 20, 21, 22, 23, 24, 25, 26, 27, 28, 29, 30, 31, 32, 33, 34] (by decide +kernel) (by decide +kernel)
set_option maxRecDepth 20000 in
theorem gX8_fit_X8_isDrive : GoodIn wsX8_fit (wsV RX8 166 RX8 yX8_isDrive wsX8_isDrive) := goodIn_app (goodIn_of _ (by decide +kernel)) ggX8_fit_X8_isDrive
theorem dX8_fit_0 : decode cX8_fit 0 = .ok (.iload_n 1, 1) := by decide +kernel
theorem dX8_fit_1 : decode cX8_fit 1 = .ok (.invokestatic 163, 3) := by decide +kernel
theorem dX8_fit_4 : decode cX8_fit 4 = .ok (.ifCond .eq 16, 3) := by decide +kernel
theorem dX8_fit_7 : decode cX8_fit 7 = .ok (.iload_n 2, 1) := by decide +kernel
theorem dX8_fit_8 : decode cX8_fit 8 = .ok (.iconst (-1), 1) := by decide +kernel
theorem dX8_fit_9 : decode cX8_fit 9 = .ok (.if_icmp .eq 14, 3) := by decide +kernel
theorem dX8_fit_12 : decode cX8_fit 12 = .ok (.aload_n 0, 1) := by decide +kernel
theorem dX8_fit_13 : decode cX8_fit 13 = .ok (.iload_n 2, 1) := by decide +kernel
theorem dX8_fit_14 : decode cX8_fit 14 = .ok (.invokevirtual 166, 3) := by decide +kernel
theorem dX8_fit_17 : decode cX8_fit 17 = .ok (.ifCond .ne 6, 3) := by decide +kernel
theorem dX8_fit_20 : decode cX8_fit 20 = .ok (.bipush (-101), 2) := by decide +kernel
theorem dX8_fit_22 : decode cX8_fit 22 = .ok (.ireturn, 1) := by decide +kernel
theorem dX8_fit_23 : decode cX8_fit 23 = .ok (.aload_n 0, 1) := by decide +kernel
theorem dX8_fit_24 : decode cX8_fit 24 = .ok (.getfield 44, 3) := by decide +kernel
theorem dX8_fit_27 : decode cX8_fit 27 = .ok (.iload_n 1, 1) := by decide +kernel
theorem dX8_fit_28 : decode cX8_fit 28 = .ok (.iload_n 2, 1) := by decide +kernel
theorem dX8_fit_29 : decode cX8_fit 29 = .ok (.iastore, 1) := by decide +kernel
theorem dX8_fit_30 : decode cX8_fit 30 = .ok (.iconst 1, 1) := by decide +kernel
theorem dX8_fit_31 : decode cX8_fit 31 = .ok (.ireturn, 1) := by decide +kernel
set_option maxRecDepth 20000 in
theorem ggX8_hauls_X8_isEndless : GoodIn wsX8_hauls wsX8_isEndless := goodIn_r _ [11, 12, 13] (by decide +kernel) (by decide +kernel)
set_option maxRecDepth 20000 in
theorem gX8_hauls_X8_isEndless : GoodIn wsX8_hauls (va_wsS RX8 119 yX8_isEndless wsX8_isEndless) := goodIn_app (goodIn_of _ (by decide +kernel)) ggX8_hauls_X8_isEndless
set_option maxRecDepth 20000 in
theorem ggX8_hauls_X8_goesDouble : GoodIn wsX8_hauls wsX8_goesDouble := goodIn_r _ [17, 4, 18, 19, 8, 9, 10, 11, 12, 13, 30, 31, 32, 33, 34, 35, 36, 37, 38, 39, 40, 41, 42, 43, 44, 45, 46, 47, 48, 49] (by decide +kernel) (by decide +kernel)
set_option maxRecDepth 20000 in
theorem gX8_hauls_X8_goesDouble : GoodIn wsX8_hauls (wsV RX8 123 RX8 yX8_goesDouble wsX8_goesDouble) := goodIn_app (goodIn_of _ (by decide +kernel)) ggX8_hauls_X8_goesDouble
set_option maxRecDepth 20000 in
theorem ggX8_hauls_X8_isEndlessFloat : GoodIn wsX8_hauls wsX8_isEndlessFloat := goodIn_r _ [22, 23, 24] (by decide +kernel) (by decide +kernel)
set_option maxRecDepth 20000 in
theorem gX8_hauls_X8_isEndlessFloat : GoodIn wsX8_hauls (va_wsS RX8 115 yX8_isEndlessFloat wsX8_isEndlessFloat) := goodIn_app (goodIn_of _ (by decide +kernel)) ggX8_hauls_X8_isEndlessFloat
set_option maxRecDepth 20000 in
theorem ggX8_hauls_X8_goesFloat : GoodIn wsX8_hauls wsX8_goesFloat := goodIn_r _ [28, 5, 18, 29, 20, 21, 10, 22, 23, 24, 30, 31, 32, 33, 34, 35, 36, 37, 38, 39, 40, 41, 42, 43, 44, 45, 46, 47, 48, 49] (by decide +kernel) (by decide +kernel)
set_option maxRecDepth 20000 in
theorem gX8_hauls_X8_goesFloat : GoodIn wsX8_hauls (wsV RX8 127 RX8 yX8_goesFloat wsX8_goesFloat) := goodIn_app (goodIn_of _ (by decide +kernel)) ggX8_hauls_X8_goesFloat
theorem dX8_hauls_0 : decode cX8_hauls 0 = .ok (.aload_n 0, 1) := by decide +kernel
theorem dX8_hauls_1 : decode cX8_hauls 1 = .ok (.getfield 35, 3) := by decide +kernel
theorem dX8_hauls_4 : decode cX8_hauls 4 = .ok (.iload_n 1, 1) := by decide +kernel
theorem dX8_hauls_5 : decode cX8_hauls 5 = .ok (.daload, 1) := by decide +kernel
theorem dX8_hauls_6 : decode cX8_hauls 6 = .ok (.dstore_n 3, 1) := by decide +kernel
theorem dX8_hauls_7 : decode cX8_hauls 7 = .ok (.aload_n 0, 1) := by decide +kernel
theorem dX8_hauls_8 : decode cX8_hauls 8 = .ok (.getfield 31, 3) := by decide +kernel
theorem dX8_hauls_11 : decode cX8_hauls 11 = .ok (.iload_n 1, 1) := by decide +kernel
theorem dX8_hauls_12 : decode cX8_hauls 12 = .ok (.iaload, 1) := by decide +kernel
theorem dX8_hauls_13 : decode cX8_hauls 13 = .ok (.ifCond .ne 33, 3) := by decide +kernel
theorem dX8_hauls_16 : decode cX8_hauls 16 = .ok (.dload_n 3, 1) := by decide +kernel
theorem dX8_hauls_17 : decode cX8_hauls 17 = .ok (.aload_n 0, 1) := by decide +kernel
theorem dX8_hauls_18 : decode cX8_hauls 18 = .ok (.getfield 7, 3) := by decide +kernel
theorem dX8_hauls_21 : decode cX8_hauls 21 = .ok (.iload_n 2, 1) := by decide +kernel
theorem dX8_hauls_22 : decode cX8_hauls 22 = .ok (.baload, 1) := by decide +kernel
theorem dX8_hauls_23 : decode cX8_hauls 23 = .ok (.ifCond .eq 12, 3) := by decide +kernel
theorem dX8_hauls_26 : decode cX8_hauls 26 = .ok (.aload_n 0, 1) := by decide +kernel
theorem dX8_hauls_27 : decode cX8_hauls 27 = .ok (.getfield 24, 3) := by decide +kernel
theorem dX8_hauls_30 : decode cX8_hauls 30 = .ok (.iload_n 2, 1) := by decide +kernel
theorem dX8_hauls_31 : decode cX8_hauls 31 = .ok (.daload, 1) := by decide +kernel
theorem dX8_hauls_32 : decode cX8_hauls 32 = .ok (.goto 10, 3) := by decide +kernel
theorem dX8_hauls_35 : decode cX8_hauls 35 = .ok (.aload_n 0, 1) := by decide +kernel
theorem dX8_hauls_36 : decode cX8_hauls 36 = .ok (.getfield 17, 3) := by decide +kernel
theorem dX8_hauls_39 : decode cX8_hauls 39 = .ok (.iload_n 2, 1) := by decide +kernel
theorem dX8_hauls_40 : decode cX8_hauls 40 = .ok (.faload, 1) := by decide +kernel
theorem dX8_hauls_41 : decode cX8_hauls 41 = .ok (.f2d, 1) := by decide +kernel
theorem dX8_hauls_42 : decode cX8_hauls 42 = .ok (.dsub, 1) := by decide +kernel
theorem dX8_hauls_43 : decode cX8_hauls 43 = .ok (.goto 12, 3) := by decide +kernel
theorem dX8_hauls_46 : decode cX8_hauls 46 = .ok (.dload_n 3, 1) := by decide +kernel
theorem dX8_hauls_47 : decode cX8_hauls 47 = .ok (.aload_n 0, 1) := by decide +kernel
theorem dX8_hauls_48 : decode cX8_hauls 48 = .ok (.getfield 38, 3) := by decide +kernel
theorem dX8_hauls_51 : decode cX8_hauls 51 = .ok (.iload_n 1, 1) := by decide +kernel
theorem dX8_hauls_52 : decode cX8_hauls 52 = .ok (.iaload, 1) := by decide +kernel
theorem dX8_hauls_53 : decode cX8_hauls 53 = .ok (.i2d, 1) := by decide +kernel
theorem dX8_hauls_54 : decode cX8_hauls 54 = .ok (.dmul, 1) := by decide +kernel
theorem dX8_hauls_55 : decode cX8_hauls 55 = .ok (.dstore 5, 2) := by decide +kernel
theorem dX8_hauls_57 : decode cX8_hauls 57 = .ok (.aload_n 0, 1) := by decide +kernel
theorem dX8_hauls_58 : decode cX8_hauls 58 = .ok (.getfield 31, 3) := by decide +kernel
theorem dX8_hauls_61 : decode cX8_hauls 61 = .ok (.iload_n 1, 1) := by decide +kernel
theorem dX8_hauls_62 : decode cX8_hauls 62 = .ok (.iaload, 1) := by decide +kernel
theorem dX8_hauls_63 : decode cX8_hauls 63 = .ok (.iconst 2, 1) := by decide +kernel
theorem dX8_hauls_64 : decode cX8_hauls 64 = .ok (.if_icmp .ne 15, 3) := by decide +kernel
theorem dX8_hauls_67 : decode cX8_hauls 67 = .ok (.dload_n 3, 1) := by decide +kernel
theorem dX8_hauls_68 : decode cX8_hauls 68 = .ok (.aload_n 0, 1) := by decide +kernel
theorem dX8_hauls_69 : decode cX8_hauls 69 = .ok (.getfield 41, 3) := by decide +kernel
theorem dX8_hauls_72 : decode cX8_hauls 72 = .ok (.iload_n 1, 1) := by decide +kernel
theorem dX8_hauls_73 : decode cX8_hauls 73 = .ok (.iaload, 1) := by decide +kernel
theorem dX8_hauls_74 : decode cX8_hauls 74 = .ok (.i2d, 1) := by decide +kernel
theorem dX8_hauls_75 : decode cX8_hauls 75 = .ok (.dmul, 1) := by decide +kernel
theorem dX8_hauls_76 : decode cX8_hauls 76 = .ok (.goto 4, 3) := by decide +kernel
theorem dX8_hauls_79 : decode cX8_hauls 79 = .ok (.dconst 0, 1) := by decide +kernel
theorem dX8_hauls_80 : decode cX8_hauls 80 = .ok (.dstore 7, 2) := by decide +kernel
theorem dX8_hauls_82 : decode cX8_hauls 82 = .ok (.aload_n 0, 1) := by decide +kernel
theorem dX8_hauls_83 : decode cX8_hauls 83 = .ok (.getfield 41, 3) := by decide +kernel
theorem dX8_hauls_86 : decode cX8_hauls 86 = .ok (.iload_n 1, 1) := by decide +kernel
theorem dX8_hauls_87 : decode cX8_hauls 87 = .ok (.dup2, 1) := by decide +kernel
theorem dX8_hauls_88 : decode cX8_hauls 88 = .ok (.iaload, 1) := by decide +kernel
theorem dX8_hauls_89 : decode cX8_hauls 89 = .ok (.iconst 1, 1) := by decide +kernel
theorem dX8_hauls_90 : decode cX8_hauls 90 = .ok (.iadd, 1) := by decide +kernel
theorem dX8_hauls_91 : decode cX8_hauls 91 = .ok (.iastore, 1) := by decide +kernel
theorem dX8_hauls_92 : decode cX8_hauls 92 = .ok (.dload 5, 2) := by decide +kernel
theorem dX8_hauls_94 : decode cX8_hauls 94 = .ok (.invokestatic 119, 3) := by decide +kernel
theorem dX8_hauls_97 : decode cX8_hauls 97 = .ok (.ifCond .ne 11, 3) := by decide +kernel
theorem dX8_hauls_100 : decode cX8_hauls 100 = .ok (.dload 7, 2) := by decide +kernel
theorem dX8_hauls_102 : decode cX8_hauls 102 = .ok (.invokestatic 119, 3) := by decide +kernel
theorem dX8_hauls_105 : decode cX8_hauls 105 = .ok (.ifCond .eq 5, 3) := by decide +kernel
theorem dX8_hauls_108 : decode cX8_hauls 108 = .ok (.iconst 0, 1) := by decide +kernel
theorem dX8_hauls_109 : decode cX8_hauls 109 = .ok (.ireturn, 1) := by decide +kernel
theorem dX8_hauls_110 : decode cX8_hauls 110 = .ok (.aload_n 0, 1) := by decide +kernel
theorem dX8_hauls_111 : decode cX8_hauls 111 = .ok (.getfield 31, 3) := by decide +kernel
theorem dX8_hauls_114 : decode cX8_hauls 114 = .ok (.iload_n 1, 1) := by decide +kernel
theorem dX8_hauls_115 : decode cX8_hauls 115 = .ok (.iaload, 1) := by decide +kernel
theorem dX8_hauls_116 : decode cX8_hauls 116 = .ok (.iconst 2, 1) := by decide +kernel
theorem dX8_hauls_117 : decode cX8_hauls 117 = .ok (.if_icmp .ne 11, 3) := by decide +kernel
theorem dX8_hauls_120 : decode cX8_hauls 120 = .ok (.dload 5, 2) := by decide +kernel
theorem dX8_hauls_122 : decode cX8_hauls 122 = .ok (.dload 7, 2) := by decide +kernel
theorem dX8_hauls_124 : decode cX8_hauls 124 = .ok (.dadd, 1) := by decide +kernel
theorem dX8_hauls_125 : decode cX8_hauls 125 = .ok (.goto 5, 3) := by decide +kernel
theorem dX8_hauls_128 : decode cX8_hauls 128 = .ok (.dload 5, 2) := by decide +kernel
theorem dX8_hauls_130 : decode cX8_hauls 130 = .ok (.dstore 9, 2) := by decide +kernel
theorem dX8_hauls_132 : decode cX8_hauls 132 = .ok (.dload 9, 2) := by decide +kernel
theorem dX8_hauls_134 : decode cX8_hauls 134 = .ok (.invokestatic 119, 3) := by decide +kernel
theorem dX8_hauls_137 : decode cX8_hauls 137 = .ok (.ifCond .eq 5, 3) := by decide +kernel
theorem dX8_hauls_140 : decode cX8_hauls 140 = .ok (.iconst 0, 1) := by decide +kernel
theorem dX8_hauls_141 : decode cX8_hauls 141 = .ok (.ireturn, 1) := by decide +kernel
theorem dX8_hauls_142 : decode cX8_hauls 142 = .ok (.aload_n 0, 1) := by decide +kernel
theorem dX8_hauls_143 : decode cX8_hauls 143 = .ok (.getfield 7, 3) := by decide +kernel
theorem dX8_hauls_146 : decode cX8_hauls 146 = .ok (.iload_n 2, 1) := by decide +kernel
theorem dX8_hauls_147 : decode cX8_hauls 147 = .ok (.baload, 1) := by decide +kernel
theorem dX8_hauls_148 : decode cX8_hauls 148 = .ok (.ifCond .eq 11, 3) := by decide +kernel
theorem dX8_hauls_151 : decode cX8_hauls 151 = .ok (.aload_n 0, 1) := by decide +kernel
theorem dX8_hauls_152 : decode cX8_hauls 152 = .ok (.iload_n 2, 1) := by decide +kernel
theorem dX8_hauls_153 : decode cX8_hauls 153 = .ok (.dload 9, 2) := by decide +kernel
theorem dX8_hauls_155 : decode cX8_hauls 155 = .ok (.invokevirtual 123, 3) := by decide +kernel
theorem dX8_hauls_158 : decode cX8_hauls 158 = .ok (.ireturn, 1) := by decide +kernel
theorem dX8_hauls_159 : decode cX8_hauls 159 = .ok (.dload 9, 2) := by decide +kernel
theorem dX8_hauls_161 : decode cX8_hauls 161 = .ok (.d2f, 1) := by decide +kernel
theorem dX8_hauls_162 : decode cX8_hauls 162 = .ok (.fstore 11, 2) := by decide +kernel
theorem dX8_hauls_164 : decode cX8_hauls 164 = .ok (.fload 11, 2) := by decide +kernel
theorem dX8_hauls_166 : decode cX8_hauls 166 = .ok (.invokestatic 115, 3) := by decide +kernel
theorem dX8_hauls_169 : decode cX8_hauls 169 = .ok (.ifCond .ne 17, 3) := by decide +kernel
theorem dX8_hauls_172 : decode cX8_hauls 172 = .ok (.aload_n 0, 1) := by decide +kernel
theorem dX8_hauls_173 : decode cX8_hauls 173 = .ok (.iload_n 2, 1) := by decide +kernel
theorem dX8_hauls_174 : decode cX8_hauls 174 = .ok (.fload 11, 2) := by decide +kernel
theorem dX8_hauls_176 : decode cX8_hauls 176 = .ok (.invokevirtual 127, 3) := by decide +kernel
theorem dX8_hauls_179 : decode cX8_hauls 179 = .ok (.ifCond .eq 7, 3) := by decide +kernel
theorem dX8_hauls_182 : decode cX8_hauls 182 = .ok (.iconst 1, 1) := by decide +kernel
theorem dX8_hauls_183 : decode cX8_hauls 183 = .ok (.goto 4, 3) := by decide +kernel
theorem dX8_hauls_186 : decode cX8_hauls 186 = .ok (.iconst 0, 1) := by decide +kernel
theorem dX8_hauls_187 : decode cX8_hauls 187 = .ok (.ireturn, 1) := by decide +kernel
set_option maxRecDepth 20000 in
theorem ggX8_pullCause_X8_hauls : GoodIn wsX8_pullCause wsX8_hauls := goodIn_r _ [5, 6, 7, 8, 9, 10, 11, 12, 13, 14, 4, 15, 16, 17, 18, 19, 20, 21, 22, 23, 24, 25, 26, 27, 28, 29, 30, 31, 32, 33, 34, 35, 36, 37, 38, 39, 40, 41, 42, 43, 44, 45, 46, 47, 48, 49, 50, 51, 52, 53] (by decide +kernel) (by decide +kernel)
set_option maxRecDepth 20000 in
theorem gX8_pullCause_X8_hauls : GoodIn wsX8_pullCause (wsV RX8 169 RX8 yX8_hauls wsX8_hauls) := goodIn_app (goodIn_of _ (by decide +kernel)) ggX8_pullCause_X8_hauls
theorem dX8_pullCause_0 : decode cX8_pullCause 0 = .ok (.iload_n 1, 1) := by decide +kernel
theorem dX8_pullCause_1 : decode cX8_pullCause 1 = .ok (.iconst (-1), 1) := by decide +kernel
theorem dX8_pullCause_2 : decode cX8_pullCause 2 = .ok (.if_icmp .ne 8, 3) := by decide +kernel
theorem dX8_pullCause_5 : decode cX8_pullCause 5 = .ok (.bipush (-11), 2) := by decide +kernel
theorem dX8_pullCause_7 : decode cX8_pullCause 7 = .ok (.goto 18, 3) := by decide +kernel
theorem dX8_pullCause_10 : decode cX8_pullCause 10 = .ok (.aload_n 0, 1) := by decide +kernel
theorem dX8_pullCause_11 : decode cX8_pullCause 11 = .ok (.iload_n 1, 1) := by decide +kernel
theorem dX8_pullCause_12 : decode cX8_pullCause 12 = .ok (.iload_n 2, 1) := by decide +kernel
theorem dX8_pullCause_13 : decode cX8_pullCause 13 = .ok (.invokevirtual 169, 3) := by decide +kernel
theorem dX8_pullCause_16 : decode cX8_pullCause 16 = .ok (.ifCond .eq 7, 3) := by decide +kernel
theorem dX8_pullCause_19 : decode cX8_pullCause 19 = .ok (.iconst 0, 1) := by decide +kernel
theorem dX8_pullCause_20 : decode cX8_pullCause 20 = .ok (.goto 5, 3) := by decide +kernel
theorem dX8_pullCause_23 : decode cX8_pullCause 23 = .ok (.bipush (-15), 2) := by decide +kernel
theorem dX8_pullCause_25 : decode cX8_pullCause 25 = .ok (.ireturn, 1) := by decide +kernel
set_option maxRecDepth 20000 in
theorem ggX8_pull_X8_isSlot : GoodIn wsX8_pull wsX8_isSlot := goodIn_r _ [5, 6, 7, 8, 4, 9] (by decide +kernel) (by decide +kernel)
set_option maxRecDepth 20000 in
theorem gX8_pull_X8_isSlot : GoodIn wsX8_pull (va_wsS RX8 163 yX8_isSlot wsX8_isSlot) := goodIn_app (goodIn_of _ (by decide +kernel)) ggX8_pull_X8_isSlot
set_option maxRecDepth 20000 in
theorem ggX8_pull_X8_isDial : GoodIn wsX8_pull wsX8_isDial := goodIn_r _ [13, 14, 7, 8, 4, 9, 61, 62, 63, 64, 65, 66, 67, 68, 69, 70, 71, 72, 73, 74, 75, 76, 77, 78, 79, 80] (by decide +kernel) (by decide +kernel)
set_option maxRecDepth 20000 in
theorem gX8_pull_X8_isDial : GoodIn wsX8_pull (wsV RX8 131 RX8 yX8_isDial wsX8_isDial) := goodIn_app (goodIn_of _ (by decide +kernel)) ggX8_pull_X8_isDial
set_option maxRecDepth 20000 in
theorem ggX8_pull_X8_pullCause : GoodIn wsX8_pull wsX8_pullCause := goodIn_r _ [18, 19, 20, 21, 4, 22, 23, 24, 25, 26, 27, 28, 29, 30, 31, 32, 33, 34, 35, 36, 37, 38, 39, 40, 41, 42, 43, 44, 45, 46, 47, 48, 49, 50, 61, 62, 63, 64, 65, 66, 67, 68, 69, 70, 71, 72, 73, 74, 75, 76, 77, 78, 79, 80] (by decide +kernel) (by decide +kernel)
set_option maxRecDepth 20000 in
theorem gX8_pull_X8_pullCause : GoodIn wsX8_pull (wsV RX8 173 RX8 yX8_pullCause wsX8_pullCause) := goodIn_app (goodIn_of _ (by decide +kernel)) ggX8_pull_X8_pullCause
set_option maxRecDepth 20000 in
theorem ggX8_pull_X8_done : GoodIn wsX8_pull wsX8_done := goodIn_r _ [54, 55, 61, 62, 63, 64, 65, 66, 67, 68, 69, 70, 71, 72, 73, 74, 75, 76, 77, 78, 79, 80] (by decide +kernel) (by decide +kernel)
set_option maxRecDepth 20000 in
theorem gX8_pull_X8_done : GoodIn wsX8_pull (wsV RX8 139 RX8 yX8_done wsX8_done) := goodIn_app (goodIn_of _ (by decide +kernel)) ggX8_pull_X8_done
set_option maxRecDepth 20000 in
theorem ggX8_pull_X8_fails : GoodIn wsX8_pull wsX8_fails := goodIn_r _ [59, 55, 60, 61, 62, 63, 64, 65, 66, 67, 68, 69, 70, 71, 72, 73, 74, 75, 76, 77, 78, 79, 80] (by decide +kernel) (by decide +kernel)
set_option maxRecDepth 20000 in
theorem gX8_pull_X8_fails : GoodIn wsX8_pull (wsV RX8 143 RX8 yX8_fails wsX8_fails) := goodIn_app (goodIn_of _ (by decide +kernel)) ggX8_pull_X8_fails
theorem dX8_pull_0 : decode cX8_pull 0 = .ok (.iload_n 1, 1) := by decide +kernel
theorem dX8_pull_1 : decode cX8_pull 1 = .ok (.invokestatic 163, 3) := by decide +kernel
theorem dX8_pull_4 : decode cX8_pull 4 = .ok (.ifCond .eq 11, 3) := by decide +kernel
theorem dX8_pull_7 : decode cX8_pull 7 = .ok (.aload_n 0, 1) := by decide +kernel
theorem dX8_pull_8 : decode cX8_pull 8 = .ok (.iload_n 2, 1) := by decide +kernel
theorem dX8_pull_9 : decode cX8_pull 9 = .ok (.invokevirtual 131, 3) := by decide +kernel
theorem dX8_pull_12 : decode cX8_pull 12 = .ok (.ifCond .ne 6, 3) := by decide +kernel
theorem dX8_pull_15 : decode cX8_pull 15 = .ok (.bipush (-101), 2) := by decide +kernel
theorem dX8_pull_17 : decode cX8_pull 17 = .ok (.ireturn, 1) := by decide +kernel
theorem dX8_pull_18 : decode cX8_pull 18 = .ok (.aload_n 0, 1) := by decide +kernel
theorem dX8_pull_19 : decode cX8_pull 19 = .ok (.aload_n 0, 1) := by decide +kernel
theorem dX8_pull_20 : decode cX8_pull 20 = .ok (.getfield 44, 3) := by decide +kernel
theorem dX8_pull_23 : decode cX8_pull 23 = .ok (.iload_n 1, 1) := by decide +kernel
theorem dX8_pull_24 : decode cX8_pull 24 = .ok (.iaload, 1) := by decide +kernel
theorem dX8_pull_25 : decode cX8_pull 25 = .ok (.iload_n 2, 1) := by decide +kernel
theorem dX8_pull_26 : decode cX8_pull 26 = .ok (.invokevirtual 173, 3) := by decide +kernel
theorem dX8_pull_29 : decode cX8_pull 29 = .ok (.istore_n 3, 1) := by decide +kernel
theorem dX8_pull_30 : decode cX8_pull 30 = .ok (.iload_n 3, 1) := by decide +kernel
theorem dX8_pull_31 : decode cX8_pull 31 = .ok (.ifCond .ne 11, 3) := by decide +kernel
theorem dX8_pull_34 : decode cX8_pull 34 = .ok (.aload_n 0, 1) := by decide +kernel
theorem dX8_pull_35 : decode cX8_pull 35 = .ok (.iconst 1, 1) := by decide +kernel
theorem dX8_pull_36 : decode cX8_pull 36 = .ok (.invokevirtual 139, 3) := by decide +kernel
theorem dX8_pull_39 : decode cX8_pull 39 = .ok (.goto 8, 3) := by decide +kernel
theorem dX8_pull_42 : decode cX8_pull 42 = .ok (.aload_n 0, 1) := by decide +kernel
theorem dX8_pull_43 : decode cX8_pull 43 = .ok (.iload_n 3, 1) := by decide +kernel
theorem dX8_pull_44 : decode cX8_pull 44 = .ok (.invokevirtual 143, 3) := by decide +kernel
theorem dX8_pull_47 : decode cX8_pull 47 = .ok (.ireturn, 1) := by decide +kernel
set_option maxRecDepth 20000 in
theorem ggX8_gear_X8_isSlot : GoodIn wsX8_gear wsX8_isSlot := goodIn_r _ [9, 10, 11, 12, 8, 13] (by decide +kernel) (by decide +kernel)
set_option maxRecDepth 20000 in
theorem gX8_gear_X8_isSlot : GoodIn wsX8_gear (va_wsS RX8 163 yX8_isSlot wsX8_isSlot) := goodIn_app (goodIn_of _ (by decide +kernel)) ggX8_gear_X8_isSlot
set_option maxRecDepth 20000 in
theorem ggX8_gear_X8_in : GoodIn wsX8_gear wsX8_in := goodIn_r _ [13] (by decide +kernel) (by decide +kernel)
set_option maxRecDepth 20000 in
theorem gX8_gear_X8_in : GoodIn wsX8_gear (va_wsS RX8 100 yX8_in wsX8_in) := goodIn_app (goodIn_of _ (by decide +kernel)) ggX8_gear_X8_in
set_option maxRecDepth 20000 in
theorem ggX8_gear_X8_fails : GoodIn wsX8_gear wsX8_fails := goodIn_r _ [17, 18, 19, 24, 25, 26, 27, 28, 29, 30, 31, 32, 33, 34, 35, 36, 37, 38, 39, 40, 41, 42, 43] (by decide +kernel) (by decide +kernel)
set_option maxRecDepth 20000 in
theorem gX8_gear_X8_fails : GoodIn wsX8_gear (wsV RX8 143 RX8 yX8_fails wsX8_fails) := goodIn_app (goodIn_of _ (by decide +kernel)) ggX8_gear_X8_fails
end
section
set_option maxRecDepth 20000 in
theorem ggX8_gear_X8_done : GoodIn wsX8_gear wsX8_done := goodIn_r _ [23, 18, 24, 25, 26, 27, 28, 29, 30, 31, 32, 33, 34, 35, 36, 37, 38, 39, 40, 41, 42, 43] (by decide +kernel) (by decide +kernel)
set_option maxRecDepth 20000 in
theorem gX8_gear_X8_done : GoodIn wsX8_gear (wsV RX8 139 RX8 yX8_done wsX8_done) := goodIn_app (goodIn_of _ (by decide +kernel)) ggX8_gear_X8_done
theorem dX8_gear_0 : decode cX8_gear 0 = .ok (.iload_n 1, 1) := by decide +kernel
theorem dX8_gear_1 : decode cX8_gear 1 = .ok (.invokestatic 163, 3) := by decide +kernel
theorem dX8_gear_4 : decode cX8_gear 4 = .ok (.ifCond .ne 6, 3) := by decide +kernel
theorem dX8_gear_7 : decode cX8_gear 7 = .ok (.bipush (-101), 2) := by decide +kernel
theorem dX8_gear_9 : decode cX8_gear 9 = .ok (.ireturn, 1) := by decide +kernel
theorem dX8_gear_10 : decode cX8_gear 10 = .ok (.iload_n 2, 1) := by decide +kernel
theorem dX8_gear_11 : decode cX8_gear 11 = .ok (.i2l, 1) := by decide +kernel
theorem dX8_gear_12 : decode cX8_gear 12 = .ok (.ldc2_w 177, 3) := by decide +kernel
theorem dX8_gear_15 : decode cX8_gear 15 = .ok (.ldc2_w 179, 3) := by decide +kernel
theorem dX8_gear_18 : decode cX8_gear 18 = .ok (.invokestatic 100, 3) := by decide +kernel
theorem dX8_gear_21 : decode cX8_gear 21 = .ok (.ifCond .ne 6, 3) := by decide +kernel
theorem dX8_gear_24 : decode cX8_gear 24 = .ok (.bipush (-102), 2) := by decide +kernel
theorem dX8_gear_26 : decode cX8_gear 26 = .ok (.ireturn, 1) := by decide +kernel
theorem dX8_gear_27 : decode cX8_gear 27 = .ok (.aload_n 0, 1) := by decide +kernel
theorem dX8_gear_28 : decode cX8_gear 28 = .ok (.getfield 44, 3) := by decide +kernel
theorem dX8_gear_31 : decode cX8_gear 31 = .ok (.iload_n 1, 1) := by decide +kernel
theorem dX8_gear_32 : decode cX8_gear 32 = .ok (.iaload, 1) := by decide +kernel
theorem dX8_gear_33 : decode cX8_gear 33 = .ok (.istore_n 3, 1) := by decide +kernel
theorem dX8_gear_34 : decode cX8_gear 34 = .ok (.iload_n 3, 1) := by decide +kernel
theorem dX8_gear_35 : decode cX8_gear 35 = .ok (.iconst (-1), 1) := by decide +kernel
theorem dX8_gear_36 : decode cX8_gear 36 = .ok (.if_icmp .eq 12, 3) := by decide +kernel
theorem dX8_gear_39 : decode cX8_gear 39 = .ok (.aload_n 0, 1) := by decide +kernel
theorem dX8_gear_40 : decode cX8_gear 40 = .ok (.getfield 31, 3) := by decide +kernel
theorem dX8_gear_43 : decode cX8_gear 43 = .ok (.iload_n 3, 1) := by decide +kernel
theorem dX8_gear_44 : decode cX8_gear 44 = .ok (.iaload, 1) := by decide +kernel
theorem dX8_gear_45 : decode cX8_gear 45 = .ok (.ifCond .ne 20, 3) := by decide +kernel
theorem dX8_gear_48 : decode cX8_gear 48 = .ok (.aload_n 0, 1) := by decide +kernel
theorem dX8_gear_49 : decode cX8_gear 49 = .ok (.iload_n 3, 1) := by decide +kernel
theorem dX8_gear_50 : decode cX8_gear 50 = .ok (.iconst (-1), 1) := by decide +kernel
theorem dX8_gear_51 : decode cX8_gear 51 = .ok (.if_icmp .ne 8, 3) := by decide +kernel
theorem dX8_gear_54 : decode cX8_gear 54 = .ok (.bipush (-11), 2) := by decide +kernel
theorem dX8_gear_56 : decode cX8_gear 56 = .ok (.goto 5, 3) := by decide +kernel
theorem dX8_gear_59 : decode cX8_gear 59 = .ok (.bipush (-13), 2) := by decide +kernel
theorem dX8_gear_61 : decode cX8_gear 61 = .ok (.invokevirtual 143, 3) := by decide +kernel
theorem dX8_gear_64 : decode cX8_gear 64 = .ok (.ireturn, 1) := by decide +kernel
theorem dX8_gear_65 : decode cX8_gear 65 = .ok (.aload_n 0, 1) := by decide +kernel
theorem dX8_gear_66 : decode cX8_gear 66 = .ok (.getfield 38, 3) := by decide +kernel
theorem dX8_gear_69 : decode cX8_gear 69 = .ok (.iload_n 3, 1) := by decide +kernel
theorem dX8_gear_70 : decode cX8_gear 70 = .ok (.iaload, 1) := by decide +kernel
theorem dX8_gear_71 : decode cX8_gear 71 = .ok (.istore 4, 2) := by decide +kernel
theorem dX8_gear_73 : decode cX8_gear 73 = .ok (.aload_n 0, 1) := by decide +kernel
theorem dX8_gear_74 : decode cX8_gear 74 = .ok (.getfield 38, 3) := by decide +kernel
theorem dX8_gear_77 : decode cX8_gear 77 = .ok (.iload_n 3, 1) := by decide +kernel
theorem dX8_gear_78 : decode cX8_gear 78 = .ok (.iload_n 2, 1) := by decide +kernel
theorem dX8_gear_79 : decode cX8_gear 79 = .ok (.iastore, 1) := by decide +kernel
theorem dX8_gear_80 : decode cX8_gear 80 = .ok (.aload_n 0, 1) := by decide +kernel
theorem dX8_gear_81 : decode cX8_gear 81 = .ok (.iload 4, 2) := by decide +kernel
theorem dX8_gear_83 : decode cX8_gear 83 = .ok (.invokevirtual 139, 3) := by decide +kernel
theorem dX8_gear_86 : decode cX8_gear 86 = .ok (.ireturn, 1) := by decide +kernel
set_option maxRecDepth 20000 in
theorem ggX8_lay_X8_isShaft : GoodIn wsX8_lay wsX8_isShaft := goodIn_r _ [8, 9, 10, 7, 11] (by decide +kernel) (by decide +kernel)
set_option maxRecDepth 20000 in
theorem gX8_lay_X8_isShaft : GoodIn wsX8_lay (va_wsS RX8 181 yX8_isShaft wsX8_isShaft) := goodIn_app (goodIn_of _ (by decide +kernel)) ggX8_lay_X8_isShaft
set_option maxRecDepth 20000 in
theorem ggX8_lay_X8_isSlot : GoodIn wsX8_lay wsX8_isSlot := goodIn_r _ [14, 15, 9, 10, 7, 11] (by decide +kernel) (by decide +kernel)
set_option maxRecDepth 20000 in
theorem gX8_lay_X8_isSlot : GoodIn wsX8_lay (va_wsS RX8 163 yX8_isSlot wsX8_isSlot) := goodIn_app (goodIn_of _ (by decide +kernel)) ggX8_lay_X8_isSlot
set_option maxRecDepth 20000 in
theorem ggX8_lay_X8_in : GoodIn wsX8_lay wsX8_in := goodIn_r _ [11] (by decide +kernel) (by decide +kernel)
set_option maxRecDepth 20000 in
theorem gX8_lay_X8_in : GoodIn wsX8_lay (va_wsS RX8 100 yX8_in wsX8_in) := goodIn_app (goodIn_of _ (by decide +kernel)) ggX8_lay_X8_in
set_option maxRecDepth 20000 in
theorem ggX8_lay_X8_fails : GoodIn wsX8_lay wsX8_fails := goodIn_r _ [19, 20, 21, 26, 27, 28, 29, 30, 31, 32, 33, 34, 35, 36, 37, 38, 39, 40, 41, 42, 43, 44, 45] (by decide +kernel) (by decide +kernel)
set_option maxRecDepth 20000 in
theorem gX8_lay_X8_fails : GoodIn wsX8_lay (wsV RX8 143 RX8 yX8_fails wsX8_fails) := goodIn_app (goodIn_of _ (by decide +kernel)) ggX8_lay_X8_fails
set_option maxRecDepth 20000 in
theorem ggX8_lay_X8_done : GoodIn wsX8_lay wsX8_done := goodIn_r _ [25, 20, 26, 27, 28, 29, 30, 31, 32, 33, 34, 35, 36, 37, 38, 39, 40, 41, 42, 43, 44, 45] (by decide +kernel) (by decide +kernel)
set_option maxRecDepth 20000 in
theorem gX8_lay_X8_done : GoodIn wsX8_lay (wsV RX8 139 RX8 yX8_done wsX8_done) := goodIn_app (goodIn_of _ (by decide +kernel)) ggX8_lay_X8_done
theorem dX8_lay_0 : decode cX8_lay 0 = .ok (.iload_n 1, 1) := by decide +kernel
theorem dX8_lay_1 : decode cX8_lay 1 = .ok (.invokestatic 181, 3) := by decide +kernel
theorem dX8_lay_4 : decode cX8_lay 4 = .ok (.ifCond .eq 10, 3) := by decide +kernel
theorem dX8_lay_7 : decode cX8_lay 7 = .ok (.iload_n 3, 1) := by decide +kernel
theorem dX8_lay_8 : decode cX8_lay 8 = .ok (.invokestatic 163, 3) := by decide +kernel
theorem dX8_lay_11 : decode cX8_lay 11 = .ok (.ifCond .ne 6, 3) := by decide +kernel
theorem dX8_lay_14 : decode cX8_lay 14 = .ok (.bipush (-101), 2) := by decide +kernel
theorem dX8_lay_16 : decode cX8_lay 16 = .ok (.ireturn, 1) := by decide +kernel
theorem dX8_lay_17 : decode cX8_lay 17 = .ok (.iload_n 2, 1) := by decide +kernel
theorem dX8_lay_18 : decode cX8_lay 18 = .ok (.i2l, 1) := by decide +kernel
theorem dX8_lay_19 : decode cX8_lay 19 = .ok (.lconst 0, 1) := by decide +kernel
theorem dX8_lay_20 : decode cX8_lay 20 = .ok (.ldc2_w 184, 3) := by decide +kernel
theorem dX8_lay_23 : decode cX8_lay 23 = .ok (.invokestatic 100, 3) := by decide +kernel
theorem dX8_lay_26 : decode cX8_lay 26 = .ok (.ifCond .ne 10, 3) := by decide +kernel
theorem dX8_lay_29 : decode cX8_lay 29 = .ok (.aload_n 0, 1) := by decide +kernel
theorem dX8_lay_30 : decode cX8_lay 30 = .ok (.bipush (-12), 2) := by decide +kernel
theorem dX8_lay_32 : decode cX8_lay 32 = .ok (.invokevirtual 143, 3) := by decide +kernel
theorem dX8_lay_35 : decode cX8_lay 35 = .ok (.ireturn, 1) := by decide +kernel
theorem dX8_lay_36 : decode cX8_lay 36 = .ok (.aload_n 0, 1) := by decide +kernel
theorem dX8_lay_37 : decode cX8_lay 37 = .ok (.getfield 44, 3) := by decide +kernel
theorem dX8_lay_40 : decode cX8_lay 40 = .ok (.iload_n 3, 1) := by decide +kernel
theorem dX8_lay_41 : decode cX8_lay 41 = .ok (.iaload, 1) := by decide +kernel
theorem dX8_lay_42 : decode cX8_lay 42 = .ok (.istore 4, 2) := by decide +kernel
theorem dX8_lay_44 : decode cX8_lay 44 = .ok (.iload_n 1, 1) := by decide +kernel
theorem dX8_lay_45 : decode cX8_lay 45 = .ok (.iconst 1, 1) := by decide +kernel
theorem dX8_lay_46 : decode cX8_lay 46 = .ok (.if_icmp .ne 26, 3) := by decide +kernel
theorem dX8_lay_49 : decode cX8_lay 49 = .ok (.iload 4, 2) := by decide +kernel
theorem dX8_lay_51 : decode cX8_lay 51 = .ok (.iconst (-1), 1) := by decide +kernel
theorem dX8_lay_52 : decode cX8_lay 52 = .ok (.if_icmp .eq 20, 3) := by decide +kernel
theorem dX8_lay_55 : decode cX8_lay 55 = .ok (.aload_n 0, 1) := by decide +kernel
theorem dX8_lay_56 : decode cX8_lay 56 = .ok (.getfield 31, 3) := by decide +kernel
theorem dX8_lay_59 : decode cX8_lay 59 = .ok (.iload 4, 2) := by decide +kernel
theorem dX8_lay_61 : decode cX8_lay 61 = .ok (.iaload, 1) := by decide +kernel
theorem dX8_lay_62 : decode cX8_lay 62 = .ok (.ifCond .ne 10, 3) := by decide +kernel
theorem dX8_lay_65 : decode cX8_lay 65 = .ok (.aload_n 0, 1) := by decide +kernel
theorem dX8_lay_66 : decode cX8_lay 66 = .ok (.bipush (-14), 2) := by decide +kernel
theorem dX8_lay_68 : decode cX8_lay 68 = .ok (.invokevirtual 143, 3) := by decide +kernel
theorem dX8_lay_71 : decode cX8_lay 71 = .ok (.ireturn, 1) := by decide +kernel
theorem dX8_lay_72 : decode cX8_lay 72 = .ok (.aload_n 0, 1) := by decide +kernel
theorem dX8_lay_73 : decode cX8_lay 73 = .ok (.getfield 47, 3) := by decide +kernel
theorem dX8_lay_76 : decode cX8_lay 76 = .ok (.iconst 4, 1) := by decide +kernel
theorem dX8_lay_77 : decode cX8_lay 77 = .ok (.iload_n 1, 1) := by decide +kernel
theorem dX8_lay_78 : decode cX8_lay 78 = .ok (.imul, 1) := by decide +kernel
theorem dX8_lay_79 : decode cX8_lay 79 = .ok (.iload_n 2, 1) := by decide +kernel
theorem dX8_lay_80 : decode cX8_lay 80 = .ok (.iadd, 1) := by decide +kernel
theorem dX8_lay_81 : decode cX8_lay 81 = .ok (.iload 4, 2) := by decide +kernel
theorem dX8_lay_83 : decode cX8_lay 83 = .ok (.iastore, 1) := by decide +kernel
theorem dX8_lay_84 : decode cX8_lay 84 = .ok (.aload_n 0, 1) := by decide +kernel
theorem dX8_lay_85 : decode cX8_lay 85 = .ok (.iconst 1, 1) := by decide +kernel
theorem dX8_lay_86 : decode cX8_lay 86 = .ok (.invokevirtual 139, 3) := by decide +kernel
theorem dX8_lay_89 : decode cX8_lay 89 = .ok (.ireturn, 1) := by decide +kernel
set_option maxRecDepth 20000 in
theorem ggX8_wind_X8_isShaft : GoodIn wsX8_wind wsX8_isShaft := goodIn_r _ [6, 7, 8, 5, 9] (by decide +kernel) (by decide +kernel)
set_option maxRecDepth 20000 in
theorem gX8_wind_X8_isShaft : GoodIn wsX8_wind (va_wsS RX8 181 yX8_isShaft wsX8_isShaft) := goodIn_app (goodIn_of _ (by decide +kernel)) ggX8_wind_X8_isShaft
set_option maxRecDepth 20000 in
theorem ggX8_wind_X8_isDial : GoodIn wsX8_wind wsX8_isDial := goodIn_r _ [13, 14, 7, 8, 5, 9, 56, 57, 58, 59, 60, 61, 62, 63, 64, 65, 66, 67, 68, 69, 70, 71, 72, 73, 74, 75] (by decide +kernel) (by decide +kernel)
set_option maxRecDepth 20000 in
theorem gX8_wind_X8_isDial : GoodIn wsX8_wind (wsV RX8 131 RX8 yX8_isDial wsX8_isDial) := goodIn_app (goodIn_of _ (by decide +kernel)) ggX8_wind_X8_isDial
set_option maxRecDepth 20000 in
theorem ggX8_wind_X8_pullCause : GoodIn wsX8_wind wsX8_pullCause := goodIn_r _ [18, 19, 20, 21, 5, 22, 23, 24, 25, 26, 27, 28, 29, 30, 31, 32, 33, 34, 35, 36, 37, 38, 39, 40, 41, 42, 43, 44, 45, 46, 47, 48, 49, 50, 56, 57, 58, 59, 60, 61, 62, 63, 64, 65, 66, 67, 68, 69, 70, 71, 72, 73, 74, 75] (by decide +kernel) (by decide +kernel)
set_option maxRecDepth 20000 in
theorem gX8_wind_X8_pullCause : GoodIn wsX8_wind (wsV RX8 173 RX8 yX8_pullCause wsX8_pullCause) := goodIn_app (goodIn_of _ (by decide +kernel)) ggX8_wind_X8_pullCause
set_option maxRecDepth 20000 in
theorem ggX8_wind_X8_fails : GoodIn wsX8_wind wsX8_fails := goodIn_r _ [54, 1, 55, 56, 57, 58, 59, 60, 61, 62, 63, 64, 65, 66, 67, 68, 69, 70, 71, 72, 73, 74, 75] (by decide +kernel) (by decide +kernel)
set_option maxRecDepth 20000 in
theorem gX8_wind_X8_fails : GoodIn wsX8_wind (wsV RX8 143 RX8 yX8_fails wsX8_fails) := goodIn_app (goodIn_of _ (by decide +kernel)) ggX8_wind_X8_fails
theorem dX8_wind_0 : decode cX8_wind 0 = .ok (.iload_n 1, 1) := by decide +kernel
theorem dX8_wind_1 : decode cX8_wind 1 = .ok (.invokestatic 181, 3) := by decide +kernel
theorem dX8_wind_4 : decode cX8_wind 4 = .ok (.ifCond .eq 11, 3) := by decide +kernel
theorem dX8_wind_7 : decode cX8_wind 7 = .ok (.aload_n 0, 1) := by decide +kernel
theorem dX8_wind_8 : decode cX8_wind 8 = .ok (.iload_n 2, 1) := by decide +kernel
theorem dX8_wind_9 : decode cX8_wind 9 = .ok (.invokevirtual 131, 3) := by decide +kernel
theorem dX8_wind_12 : decode cX8_wind 12 = .ok (.ifCond .ne 6, 3) := by decide +kernel
theorem dX8_wind_15 : decode cX8_wind 15 = .ok (.bipush (-101), 2) := by decide +kernel
theorem dX8_wind_17 : decode cX8_wind 17 = .ok (.ireturn, 1) := by decide +kernel
theorem dX8_wind_18 : decode cX8_wind 18 = .ok (.aload_n 0, 1) := by decide +kernel
theorem dX8_wind_19 : decode cX8_wind 19 = .ok (.iconst 0, 1) := by decide +kernel
theorem dX8_wind_20 : decode cX8_wind 20 = .ok (.putfield 66, 3) := by decide +kernel
theorem dX8_wind_23 : decode cX8_wind 23 = .ok (.iconst 0, 1) := by decide +kernel
theorem dX8_wind_24 : decode cX8_wind 24 = .ok (.istore_n 3, 1) := by decide +kernel
theorem dX8_wind_25 : decode cX8_wind 25 = .ok (.iload_n 3, 1) := by decide +kernel
theorem dX8_wind_26 : decode cX8_wind 26 = .ok (.iconst 4, 1) := by decide +kernel
theorem dX8_wind_27 : decode cX8_wind 27 = .ok (.if_icmp .ge 41, 3) := by decide +kernel
theorem dX8_wind_30 : decode cX8_wind 30 = .ok (.aload_n 0, 1) := by decide +kernel
theorem dX8_wind_31 : decode cX8_wind 31 = .ok (.aload_n 0, 1) := by decide +kernel
theorem dX8_wind_32 : decode cX8_wind 32 = .ok (.getfield 47, 3) := by decide +kernel
theorem dX8_wind_35 : decode cX8_wind 35 = .ok (.iconst 4, 1) := by decide +kernel
theorem dX8_wind_36 : decode cX8_wind 36 = .ok (.iload_n 1, 1) := by decide +kernel
theorem dX8_wind_37 : decode cX8_wind 37 = .ok (.imul, 1) := by decide +kernel
theorem dX8_wind_38 : decode cX8_wind 38 = .ok (.iload_n 3, 1) := by decide +kernel
theorem dX8_wind_39 : decode cX8_wind 39 = .ok (.iadd, 1) := by decide +kernel
theorem dX8_wind_40 : decode cX8_wind 40 = .ok (.iaload, 1) := by decide +kernel
theorem dX8_wind_41 : decode cX8_wind 41 = .ok (.iload_n 2, 1) := by decide +kernel
theorem dX8_wind_42 : decode cX8_wind 42 = .ok (.invokevirtual 173, 3) := by decide +kernel
theorem dX8_wind_45 : decode cX8_wind 45 = .ok (.istore 4, 2) := by decide +kernel
theorem dX8_wind_47 : decode cX8_wind 47 = .ok (.iload 4, 2) := by decide +kernel
theorem dX8_wind_49 : decode cX8_wind 49 = .ok (.ifCond .eq 13, 3) := by decide +kernel
theorem dX8_wind_52 : decode cX8_wind 52 = .ok (.aload_n 0, 1) := by decide +kernel
theorem dX8_wind_53 : decode cX8_wind 53 = .ok (.iload 4, 2) := by decide +kernel
theorem dX8_wind_55 : decode cX8_wind 55 = .ok (.invokevirtual 143, 3) := by decide +kernel
theorem dX8_wind_58 : decode cX8_wind 58 = .ok (.istore 4, 2) := by decide +kernel
theorem dX8_wind_60 : decode cX8_wind 60 = .ok (.iload_n 3, 1) := by decide +kernel
theorem dX8_wind_61 : decode cX8_wind 61 = .ok (.ireturn, 1) := by decide +kernel
theorem dX8_wind_62 : decode cX8_wind 62 = .ok (.iinc 3 1, 3) := by decide +kernel
theorem dX8_wind_65 : decode cX8_wind 65 = .ok (.goto (-40), 3) := by decide +kernel
theorem dX8_wind_68 : decode cX8_wind 68 = .ok (.iconst 4, 1) := by decide +kernel
theorem dX8_wind_69 : decode cX8_wind 69 = .ok (.ireturn, 1) := by decide +kernel
set_option maxRecDepth 20000 in
theorem ggX8_laid_X8_isShaft : GoodIn wsX8_laid wsX8_isShaft := goodIn_r _ [6, 7, 8, 5, 9] (by decide +kernel) (by decide +kernel)
set_option maxRecDepth 20000 in
theorem gX8_laid_X8_isShaft : GoodIn wsX8_laid (va_wsS RX8 181 yX8_isShaft wsX8_isShaft) := goodIn_app (goodIn_of _ (by decide +kernel)) ggX8_laid_X8_isShaft
set_option maxRecDepth 20000 in
theorem ggX8_laid_X8_in : GoodIn wsX8_laid wsX8_in := goodIn_r _ [9] (by decide +kernel) (by decide +kernel)
set_option maxRecDepth 20000 in
theorem gX8_laid_X8_in : GoodIn wsX8_laid (va_wsS RX8 100 yX8_in wsX8_in) := goodIn_app (goodIn_of _ (by decide +kernel)) ggX8_laid_X8_in
set_option maxRecDepth 20000 in
theorem ggX8_laid_X8_done : GoodIn wsX8_laid wsX8_done := goodIn_r _ [13, 14, 20, 21, 22, 23, 24, 25, 26, 27, 28, 29, 30, 31, 32, 33, 34, 35, 36, 37, 38, 39] (by decide +kernel) (by decide +kernel)
set_option maxRecDepth 20000 in
theorem gX8_laid_X8_done : GoodIn wsX8_laid (wsV RX8 139 RX8 yX8_done wsX8_done) := goodIn_app (goodIn_of _ (by decide +kernel)) ggX8_laid_X8_done
set_option maxRecDepth 20000 in
theorem ggX8_laid_X8_fails : GoodIn wsX8_laid wsX8_fails := goodIn_r _ [18, 14, 19, 20, 21, 22, 23, 24, 25, 26, 27, 28, 29, 30, 31, 32, 33, 34, 35, 36, 37, 38, 39] (by decide +kernel) (by decide +kernel)
set_option maxRecDepth 20000 in
theorem gX8_laid_X8_fails : GoodIn wsX8_laid (wsV RX8 143 RX8 yX8_fails wsX8_fails) := goodIn_app (goodIn_of _ (by decide +kernel)) ggX8_laid_X8_fails
theorem dX8_laid_0 : decode cX8_laid 0 = .ok (.iload_n 1, 1) := by decide +kernel
theorem dX8_laid_1 : decode cX8_laid 1 = .ok (.invokestatic 181, 3) := by decide +kernel
theorem dX8_laid_4 : decode cX8_laid 4 = .ok (.ifCond .ne 6, 3) := by decide +kernel
theorem dX8_laid_7 : decode cX8_laid 7 = .ok (.bipush (-101), 2) := by decide +kernel
theorem dX8_laid_9 : decode cX8_laid 9 = .ok (.ireturn, 1) := by decide +kernel
theorem dX8_laid_10 : decode cX8_laid 10 = .ok (.iload_n 2, 1) := by decide +kernel
theorem dX8_laid_11 : decode cX8_laid 11 = .ok (.i2l, 1) := by decide +kernel
theorem dX8_laid_12 : decode cX8_laid 12 = .ok (.lconst 0, 1) := by decide +kernel
theorem dX8_laid_13 : decode cX8_laid 13 = .ok (.ldc2_w 184, 3) := by decide +kernel
theorem dX8_laid_16 : decode cX8_laid 16 = .ok (.invokestatic 100, 3) := by decide +kernel
theorem dX8_laid_19 : decode cX8_laid 19 = .ok (.ifCond .eq 20, 3) := by decide +kernel
theorem dX8_laid_22 : decode cX8_laid 22 = .ok (.aload_n 0, 1) := by decide +kernel
theorem dX8_laid_23 : decode cX8_laid 23 = .ok (.aload_n 0, 1) := by decide +kernel
theorem dX8_laid_24 : decode cX8_laid 24 = .ok (.getfield 47, 3) := by decide +kernel
theorem dX8_laid_27 : decode cX8_laid 27 = .ok (.iconst 4, 1) := by decide +kernel
theorem dX8_laid_28 : decode cX8_laid 28 = .ok (.iload_n 1, 1) := by decide +kernel
theorem dX8_laid_29 : decode cX8_laid 29 = .ok (.imul, 1) := by decide +kernel
theorem dX8_laid_30 : decode cX8_laid 30 = .ok (.iload_n 2, 1) := by decide +kernel
theorem dX8_laid_31 : decode cX8_laid 31 = .ok (.iadd, 1) := by decide +kernel
theorem dX8_laid_32 : decode cX8_laid 32 = .ok (.iaload, 1) := by decide +kernel
theorem dX8_laid_33 : decode cX8_laid 33 = .ok (.invokevirtual 139, 3) := by decide +kernel
theorem dX8_laid_36 : decode cX8_laid 36 = .ok (.goto 9, 3) := by decide +kernel
theorem dX8_laid_39 : decode cX8_laid 39 = .ok (.aload_n 0, 1) := by decide +kernel
theorem dX8_laid_40 : decode cX8_laid 40 = .ok (.bipush (-12), 2) := by decide +kernel
theorem dX8_laid_42 : decode cX8_laid 42 = .ok (.invokevirtual 143, 3) := by decide +kernel
theorem dX8_laid_45 : decode cX8_laid 45 = .ok (.ireturn, 1) := by decide +kernel
set_option maxRecDepth 20000 in
theorem ggX8_pulls_X8_isDrive : GoodIn wsX8_pulls wsX8_isDrive := goodIn_r _ [6, 7, 8, 9, 5, 10, 11, 12, 13, 14, 15, 16, 17, 18, 19, 20, 21, 22, 23, 24, 25, 26, 27, 28, 29, 30] (by decide +kernel) (by decide +kernel)
set_option maxRecDepth 20000 in
theorem gX8_pulls_X8_isDrive : GoodIn wsX8_pulls (wsV RX8 166 RX8 yX8_isDrive wsX8_isDrive) := goodIn_app (goodIn_of _ (by decide +kernel)) ggX8_pulls_X8_isDrive
theorem dX8_pulls_0 : decode cX8_pulls 0 = .ok (.aload_n 0, 1) := by decide +kernel
theorem dX8_pulls_1 : decode cX8_pulls 1 = .ok (.iload_n 1, 1) := by decide +kernel
theorem dX8_pulls_2 : decode cX8_pulls 2 = .ok (.invokevirtual 166, 3) := by decide +kernel
theorem dX8_pulls_5 : decode cX8_pulls 5 = .ok (.ifCond .eq 12, 3) := by decide +kernel
theorem dX8_pulls_8 : decode cX8_pulls 8 = .ok (.aload_n 0, 1) := by decide +kernel
theorem dX8_pulls_9 : decode cX8_pulls 9 = .ok (.getfield 41, 3) := by decide +kernel
theorem dX8_pulls_12 : decode cX8_pulls 12 = .ok (.iload_n 1, 1) := by decide +kernel
theorem dX8_pulls_13 : decode cX8_pulls 13 = .ok (.iaload, 1) := by decide +kernel
theorem dX8_pulls_14 : decode cX8_pulls 14 = .ok (.goto 5, 3) := by decide +kernel
theorem dX8_pulls_17 : decode cX8_pulls 17 = .ok (.bipush (-101), 2) := by decide +kernel
theorem dX8_pulls_19 : decode cX8_pulls 19 = .ok (.ireturn, 1) := by decide +kernel
set_option maxRecDepth 20000 in
theorem ggX8_isLog_X8_in : GoodIn wsX8_isLog wsX8_in := goodIn_r _ [5] (by decide +kernel) (by decide +kernel)
set_option maxRecDepth 20000 in
theorem gX8_isLog_X8_in : GoodIn wsX8_isLog (va_wsS RX8 100 yX8_in wsX8_in) := goodIn_app (goodIn_of _ (by decide +kernel)) ggX8_isLog_X8_in
theorem dX8_isLog_0 : decode cX8_isLog 0 = .ok (.iload_n 0, 1) := by decide +kernel
theorem dX8_isLog_1 : decode cX8_isLog 1 = .ok (.i2l, 1) := by decide +kernel
theorem dX8_isLog_2 : decode cX8_isLog 2 = .ok (.lconst 0, 1) := by decide +kernel
theorem dX8_isLog_3 : decode cX8_isLog 3 = .ok (.ldc2_w 186, 3) := by decide +kernel
theorem dX8_isLog_6 : decode cX8_isLog 6 = .ok (.invokestatic 100, 3) := by decide +kernel
theorem dX8_isLog_9 : decode cX8_isLog 9 = .ok (.ireturn, 1) := by decide +kernel
theorem dX8_rowOf_0 : decode cX8_rowOf 0 = .ok (.iload_n 1, 1) := by decide +kernel
theorem dX8_rowOf_1 : decode cX8_rowOf 1 = .ok (.ifCond .eq 11, 3) := by decide +kernel
theorem dX8_rowOf_4 : decode cX8_rowOf 4 = .ok (.iconst 2, 1) := by decide +kernel
theorem dX8_rowOf_5 : decode cX8_rowOf 5 = .ok (.iload_n 0, 1) := by decide +kernel
theorem dX8_rowOf_6 : decode cX8_rowOf 6 = .ok (.imul, 1) := by decide +kernel
theorem dX8_rowOf_7 : decode cX8_rowOf 7 = .ok (.iconst 1, 1) := by decide +kernel
theorem dX8_rowOf_8 : decode cX8_rowOf 8 = .ok (.iadd, 1) := by decide +kernel
theorem dX8_rowOf_9 : decode cX8_rowOf 9 = .ok (.goto 6, 3) := by decide +kernel
theorem dX8_rowOf_12 : decode cX8_rowOf 12 = .ok (.iconst 2, 1) := by decide +kernel
theorem dX8_rowOf_13 : decode cX8_rowOf 13 = .ok (.iload_n 0, 1) := by decide +kernel
theorem dX8_rowOf_14 : decode cX8_rowOf 14 = .ok (.imul, 1) := by decide +kernel
theorem dX8_rowOf_15 : decode cX8_rowOf 15 = .ok (.ireturn, 1) := by decide +kernel
set_option maxRecDepth 20000 in
theorem ggX8_cause_X8_in : GoodIn wsX8_cause wsX8_in := goodIn_r _ [5] (by decide +kernel) (by decide +kernel)
set_option maxRecDepth 20000 in
theorem gX8_cause_X8_in : GoodIn wsX8_cause (va_wsS RX8 100 yX8_in wsX8_in) := goodIn_app (goodIn_of _ (by decide +kernel)) ggX8_cause_X8_in
theorem dX8_cause_0 : decode cX8_cause 0 = .ok (.aload_n 0, 1) := by decide +kernel
theorem dX8_cause_1 : decode cX8_cause 1 = .ok (.getfield 50, 3) := by decide +kernel
theorem dX8_cause_4 : decode cX8_cause 4 = .ok (.iload_n 1, 1) := by decide +kernel
theorem dX8_cause_5 : decode cX8_cause 5 = .ok (.iaload, 1) := by decide +kernel
theorem dX8_cause_6 : decode cX8_cause 6 = .ok (.iconst (-1), 1) := by decide +kernel
theorem dX8_cause_7 : decode cX8_cause 7 = .ok (.if_icmp .ne 8, 3) := by decide +kernel
theorem dX8_cause_10 : decode cX8_cause 10 = .ok (.bipush (-11), 2) := by decide +kernel
theorem dX8_cause_12 : decode cX8_cause 12 = .ok (.goto 27, 3) := by decide +kernel
theorem dX8_cause_15 : decode cX8_cause 15 = .ok (.iload_n 2, 1) := by decide +kernel
theorem dX8_cause_16 : decode cX8_cause 16 = .ok (.i2l, 1) := by decide +kernel
theorem dX8_cause_17 : decode cX8_cause 17 = .ok (.lconst 0, 1) := by decide +kernel
theorem dX8_cause_18 : decode cX8_cause 18 = .ok (.aload_n 0, 1) := by decide +kernel
theorem dX8_cause_19 : decode cX8_cause 19 = .ok (.getfield 50, 3) := by decide +kernel
theorem dX8_cause_22 : decode cX8_cause 22 = .ok (.iload_n 1, 1) := by decide +kernel
theorem dX8_cause_23 : decode cX8_cause 23 = .ok (.iaload, 1) := by decide +kernel
theorem dX8_cause_24 : decode cX8_cause 24 = .ok (.i2l, 1) := by decide +kernel
theorem dX8_cause_25 : decode cX8_cause 25 = .ok (.lconst 1, 1) := by decide +kernel
theorem dX8_cause_26 : decode cX8_cause 26 = .ok (.lsub, 1) := by decide +kernel
theorem dX8_cause_27 : decode cX8_cause 27 = .ok (.invokestatic 100, 3) := by decide +kernel
theorem dX8_cause_30 : decode cX8_cause 30 = .ok (.ifCond .eq 7, 3) := by decide +kernel
theorem dX8_cause_33 : decode cX8_cause 33 = .ok (.iconst 0, 1) := by decide +kernel
theorem dX8_cause_34 : decode cX8_cause 34 = .ok (.goto 5, 3) := by decide +kernel
theorem dX8_cause_37 : decode cX8_cause 37 = .ok (.bipush (-12), 2) := by decide +kernel
theorem dX8_cause_39 : decode cX8_cause 39 = .ok (.ireturn, 1) := by decide +kernel
set_option maxRecDepth 20000 in
theorem ggX8_log_X8_isLog : GoodIn wsX8_log wsX8_isLog := goodIn_r _ [9, 10, 11, 12, 8, 13] (by decide +kernel) (by decide +kernel)
set_option maxRecDepth 20000 in
theorem gX8_log_X8_isLog : GoodIn wsX8_log (va_wsS RX8 188 yX8_isLog wsX8_isLog) := goodIn_app (goodIn_of _ (by decide +kernel)) ggX8_log_X8_isLog
set_option maxRecDepth 20000 in
theorem ggX8_log_X8_in : GoodIn wsX8_log wsX8_in := goodIn_r _ [13] (by decide +kernel) (by decide +kernel)
set_option maxRecDepth 20000 in
theorem gX8_log_X8_in : GoodIn wsX8_log (va_wsS RX8 100 yX8_in wsX8_in) := goodIn_app (goodIn_of _ (by decide +kernel)) ggX8_log_X8_in
set_option maxRecDepth 20000 in
theorem ggX8_log_X8_rowOf : GoodIn wsX8_log wsX8_rowOf := goodIn_r _ [16] (by decide +kernel) (by decide +kernel)
set_option maxRecDepth 20000 in
theorem gX8_log_X8_rowOf : GoodIn wsX8_log (va_wsS RX8 195 yX8_rowOf wsX8_rowOf) := goodIn_app (goodIn_of _ (by decide +kernel)) ggX8_log_X8_rowOf
theorem dX8_log_0 : decode cX8_log 0 = .ok (.iload_n 1, 1) := by decide +kernel
theorem dX8_log_1 : decode cX8_log 1 = .ok (.invokestatic 188, 3) := by decide +kernel
theorem dX8_log_4 : decode cX8_log 4 = .ok (.ifCond .ne 6, 3) := by decide +kernel
theorem dX8_log_7 : decode cX8_log 7 = .ok (.bipush (-101), 2) := by decide +kernel
theorem dX8_log_9 : decode cX8_log 9 = .ok (.ireturn, 1) := by decide +kernel
theorem dX8_log_10 : decode cX8_log 10 = .ok (.iload_n 3, 1) := by decide +kernel
theorem dX8_log_11 : decode cX8_log 11 = .ok (.i2l, 1) := by decide +kernel
theorem dX8_log_12 : decode cX8_log 12 = .ok (.ldc2_w 191, 3) := by decide +kernel
theorem dX8_log_15 : decode cX8_log 15 = .ok (.ldc2_w 193, 3) := by decide +kernel
theorem dX8_log_18 : decode cX8_log 18 = .ok (.invokestatic 100, 3) := by decide +kernel
theorem dX8_log_21 : decode cX8_log 21 = .ok (.ifCond .ne 6, 3) := by decide +kernel
theorem dX8_log_24 : decode cX8_log 24 = .ok (.bipush (-102), 2) := by decide +kernel
theorem dX8_log_26 : decode cX8_log 26 = .ok (.ireturn, 1) := by decide +kernel
theorem dX8_log_27 : decode cX8_log 27 = .ok (.aload_n 0, 1) := by decide +kernel
theorem dX8_log_28 : decode cX8_log 28 = .ok (.getfield 50, 3) := by decide +kernel
theorem dX8_log_31 : decode cX8_log 31 = .ok (.iload_n 1, 1) := by decide +kernel
theorem dX8_log_32 : decode cX8_log 32 = .ok (.iload_n 2, 1) := by decide +kernel
theorem dX8_log_33 : decode cX8_log 33 = .ok (.invokestatic 195, 3) := by decide +kernel
theorem dX8_log_36 : decode cX8_log 36 = .ok (.iload_n 3, 1) := by decide +kernel
theorem dX8_log_37 : decode cX8_log 37 = .ok (.iastore, 1) := by decide +kernel
theorem dX8_log_38 : decode cX8_log 38 = .ok (.bipush 16, 2) := by decide +kernel
theorem dX8_log_40 : decode cX8_log 40 = .ok (.iload_n 1, 1) := by decide +kernel
theorem dX8_log_41 : decode cX8_log 41 = .ok (.imul, 1) := by decide +kernel
theorem dX8_log_42 : decode cX8_log 42 = .ok (.istore 4, 2) := by decide +kernel
theorem dX8_log_44 : decode cX8_log 44 = .ok (.iload 4, 2) := by decide +kernel
theorem dX8_log_46 : decode cX8_log 46 = .ok (.bipush 16, 2) := by decide +kernel
theorem dX8_log_48 : decode cX8_log 48 = .ok (.iload_n 1, 1) := by decide +kernel
theorem dX8_log_49 : decode cX8_log 49 = .ok (.imul, 1) := by decide +kernel
theorem dX8_log_50 : decode cX8_log 50 = .ok (.bipush 16, 2) := by decide +kernel
theorem dX8_log_52 : decode cX8_log 52 = .ok (.iadd, 1) := by decide +kernel
theorem dX8_log_53 : decode cX8_log 53 = .ok (.if_icmp .ge 53, 3) := by decide +kernel
theorem dX8_log_56 : decode cX8_log 56 = .ok (.aload_n 0, 1) := by decide +kernel
theorem dX8_log_57 : decode cX8_log 57 = .ok (.getfield 53, 3) := by decide +kernel
theorem dX8_log_60 : decode cX8_log 60 = .ok (.iload 4, 2) := by decide +kernel
theorem dX8_log_62 : decode cX8_log 62 = .ok (.iload_n 2, 1) := by decide +kernel
theorem dX8_log_63 : decode cX8_log 63 = .ok (.ifCond .eq 13, 3) := by decide +kernel
theorem dX8_log_66 : decode cX8_log 66 = .ok (.aload_n 0, 1) := by decide +kernel
theorem dX8_log_67 : decode cX8_log 67 = .ok (.getfield 53, 3) := by decide +kernel
theorem dX8_log_70 : decode cX8_log 70 = .ok (.iload 4, 2) := by decide +kernel
theorem dX8_log_72 : decode cX8_log 72 = .ok (.faload, 1) := by decide +kernel
theorem dX8_log_73 : decode cX8_log 73 = .ok (.goto 4, 3) := by decide +kernel
theorem dX8_log_76 : decode cX8_log 76 = .ok (.fconst 0, 1) := by decide +kernel
theorem dX8_log_77 : decode cX8_log 77 = .ok (.fastore, 1) := by decide +kernel
theorem dX8_log_78 : decode cX8_log 78 = .ok (.aload_n 0, 1) := by decide +kernel
theorem dX8_log_79 : decode cX8_log 79 = .ok (.getfield 56, 3) := by decide +kernel
theorem dX8_log_82 : decode cX8_log 82 = .ok (.iload 4, 2) := by decide +kernel
theorem dX8_log_84 : decode cX8_log 84 = .ok (.iload_n 2, 1) := by decide +kernel
theorem dX8_log_85 : decode cX8_log 85 = .ok (.ifCond .eq 7, 3) := by decide +kernel
theorem dX8_log_88 : decode cX8_log 88 = .ok (.dconst 0, 1) := by decide +kernel
theorem dX8_log_89 : decode cX8_log 89 = .ok (.goto 10, 3) := by decide +kernel
theorem dX8_log_92 : decode cX8_log 92 = .ok (.aload_n 0, 1) := by decide +kernel
theorem dX8_log_93 : decode cX8_log 93 = .ok (.getfield 56, 3) := by decide +kernel
theorem dX8_log_96 : decode cX8_log 96 = .ok (.iload 4, 2) := by decide +kernel
theorem dX8_log_98 : decode cX8_log 98 = .ok (.daload, 1) := by decide +kernel
theorem dX8_log_99 : decode cX8_log 99 = .ok (.dastore, 1) := by decide +kernel
theorem dX8_log_100 : decode cX8_log 100 = .ok (.iinc 4 1, 3) := by decide +kernel
theorem dX8_log_103 : decode cX8_log 103 = .ok (.goto (-59), 3) := by decide +kernel
theorem dX8_log_106 : decode cX8_log 106 = .ok (.iconst 1, 1) := by decide +kernel
theorem dX8_log_107 : decode cX8_log 107 = .ok (.ireturn, 1) := by decide +kernel
set_option maxRecDepth 20000 in
theorem ggX8_write_X8_isLog : GoodIn wsX8_write wsX8_isLog := goodIn_r _ [6, 7, 8, 9, 5, 10] (by decide +kernel) (by decide +kernel)
set_option maxRecDepth 20000 in
theorem gX8_write_X8_isLog : GoodIn wsX8_write (va_wsS RX8 188 yX8_isLog wsX8_isLog) := goodIn_app (goodIn_of _ (by decide +kernel)) ggX8_write_X8_isLog
set_option maxRecDepth 20000 in
theorem ggX8_write_X8_isFit : GoodIn wsX8_write wsX8_isFit := goodIn_r _ [13, 14, 15, 5, 16, 17, 18, 19, 20, 21] (by decide +kernel) (by decide +kernel)
set_option maxRecDepth 20000 in
theorem gX8_write_X8_isFit : GoodIn wsX8_write (va_wsS RX8 104 yX8_isFit wsX8_isFit) := goodIn_app (goodIn_of _ (by decide +kernel)) ggX8_write_X8_isFit
set_option maxRecDepth 20000 in
theorem ggX8_write_X8_rowOf : GoodIn wsX8_write wsX8_rowOf := goodIn_r _ [24] (by decide +kernel) (by decide +kernel)
set_option maxRecDepth 20000 in
theorem gX8_write_X8_rowOf : GoodIn wsX8_write (va_wsS RX8 195 yX8_rowOf wsX8_rowOf) := goodIn_app (goodIn_of _ (by decide +kernel)) ggX8_write_X8_rowOf
set_option maxRecDepth 20000 in
theorem ggX8_write_X8_cause : GoodIn wsX8_write wsX8_cause := goodIn_r _ [28, 29, 8, 9, 5, 10, 54, 55, 56, 57, 58, 59, 60, 61, 62, 63, 64, 65, 66, 67, 68, 69, 70, 71, 72, 73] (by decide +kernel) (by decide +kernel)
set_option maxRecDepth 20000 in
theorem gX8_write_X8_cause : GoodIn wsX8_write (wsV RX8 199 RX8 yX8_cause wsX8_cause) := goodIn_app (goodIn_of _ (by decide +kernel)) ggX8_write_X8_cause
set_option maxRecDepth 20000 in
theorem ggX8_write_X8_fails : GoodIn wsX8_write wsX8_fails := goodIn_r _ [33, 34, 35, 54, 55, 56, 57, 58, 59, 60, 61, 62, 63, 64, 65, 66, 67, 68, 69, 70, 71, 72, 73] (by decide +kernel) (by decide +kernel)
set_option maxRecDepth 20000 in
theorem gX8_write_X8_fails : GoodIn wsX8_write (wsV RX8 143 RX8 yX8_fails wsX8_fails) := goodIn_app (goodIn_of _ (by decide +kernel)) ggX8_write_X8_fails
set_option maxRecDepth 20000 in
theorem ggX8_write_X8_doubleOf : GoodIn wsX8_write wsX8_doubleOf := goodIn_r _ [38, 39, 40, 41, 42] (by decide +kernel) (by decide +kernel)
set_option maxRecDepth 20000 in
theorem gX8_write_X8_doubleOf : GoodIn wsX8_write (va_wsS RX8 108 yX8_doubleOf wsX8_doubleOf) := goodIn_app (goodIn_of _ (by decide +kernel)) ggX8_write_X8_doubleOf
set_option maxRecDepth 20000 in
theorem ggX8_write_X8_floatOf : GoodIn wsX8_write wsX8_floatOf := goodIn_r _ [45, 46, 47, 48, 49] (by decide +kernel) (by decide +kernel)
set_option maxRecDepth 20000 in
theorem gX8_write_X8_floatOf : GoodIn wsX8_write (va_wsS RX8 111 yX8_floatOf wsX8_floatOf) := goodIn_app (goodIn_of _ (by decide +kernel)) ggX8_write_X8_floatOf
set_option maxRecDepth 20000 in
theorem ggX8_write_X8_done : GoodIn wsX8_write wsX8_done := goodIn_r _ [53, 34, 54, 55, 56, 57, 58, 59, 60, 61, 62, 63, 64, 65, 66, 67, 68, 69, 70, 71, 72, 73] (by decide +kernel) (by decide +kernel)
set_option maxRecDepth 20000 in
theorem gX8_write_X8_done : GoodIn wsX8_write (wsV RX8 139 RX8 yX8_done wsX8_done) := goodIn_app (goodIn_of _ (by decide +kernel)) ggX8_write_X8_done
theorem dX8_write_0 : decode cX8_write 0 = .ok (.iload_n 1, 1) := by decide +kernel
theorem dX8_write_1 : decode cX8_write 1 = .ok (.invokestatic 188, 3) := by decide +kernel
theorem dX8_write_4 : decode cX8_write 4 = .ok (.ifCond .ne 6, 3) := by decide +kernel
theorem dX8_write_7 : decode cX8_write 7 = .ok (.bipush (-101), 2) := by decide +kernel
theorem dX8_write_9 : decode cX8_write 9 = .ok (.ireturn, 1) := by decide +kernel
theorem dX8_write_10 : decode cX8_write 10 = .ok (.iload_n 2, 1) := by decide +kernel
theorem dX8_write_11 : decode cX8_write 11 = .ok (.lload 4, 2) := by decide +kernel
theorem dX8_write_13 : decode cX8_write 13 = .ok (.invokestatic 104, 3) := by decide +kernel
theorem dX8_write_16 : decode cX8_write 16 = .ok (.ifCond .ne 6, 3) := by decide +kernel
theorem dX8_write_19 : decode cX8_write 19 = .ok (.bipush (-102), 2) := by decide +kernel
theorem dX8_write_21 : decode cX8_write 21 = .ok (.ireturn, 1) := by decide +kernel
theorem dX8_write_22 : decode cX8_write 22 = .ok (.aload_n 0, 1) := by decide +kernel
theorem dX8_write_23 : decode cX8_write 23 = .ok (.iload_n 1, 1) := by decide +kernel
theorem dX8_write_24 : decode cX8_write 24 = .ok (.iload_n 2, 1) := by decide +kernel
theorem dX8_write_25 : decode cX8_write 25 = .ok (.invokestatic 195, 3) := by decide +kernel
theorem dX8_write_28 : decode cX8_write 28 = .ok (.iload_n 3, 1) := by decide +kernel
theorem dX8_write_29 : decode cX8_write 29 = .ok (.invokevirtual 199, 3) := by decide +kernel
theorem dX8_write_32 : decode cX8_write 32 = .ok (.istore 6, 2) := by decide +kernel
theorem dX8_write_34 : decode cX8_write 34 = .ok (.iload 6, 2) := by decide +kernel
theorem dX8_write_36 : decode cX8_write 36 = .ok (.ifCond .eq 10, 3) := by decide +kernel
theorem dX8_write_39 : decode cX8_write 39 = .ok (.aload_n 0, 1) := by decide +kernel
theorem dX8_write_40 : decode cX8_write 40 = .ok (.iload 6, 2) := by decide +kernel
theorem dX8_write_42 : decode cX8_write 42 = .ok (.invokevirtual 143, 3) := by decide +kernel
theorem dX8_write_45 : decode cX8_write 45 = .ok (.ireturn, 1) := by decide +kernel
theorem dX8_write_46 : decode cX8_write 46 = .ok (.iload_n 2, 1) := by decide +kernel
theorem dX8_write_47 : decode cX8_write 47 = .ok (.ifCond .eq 22, 3) := by decide +kernel
theorem dX8_write_50 : decode cX8_write 50 = .ok (.aload_n 0, 1) := by decide +kernel
theorem dX8_write_51 : decode cX8_write 51 = .ok (.getfield 56, 3) := by decide +kernel
theorem dX8_write_54 : decode cX8_write 54 = .ok (.bipush 16, 2) := by decide +kernel
theorem dX8_write_56 : decode cX8_write 56 = .ok (.iload_n 1, 1) := by decide +kernel
theorem dX8_write_57 : decode cX8_write 57 = .ok (.imul, 1) := by decide +kernel
theorem dX8_write_58 : decode cX8_write 58 = .ok (.iload_n 3, 1) := by decide +kernel
theorem dX8_write_59 : decode cX8_write 59 = .ok (.iadd, 1) := by decide +kernel
theorem dX8_write_60 : decode cX8_write 60 = .ok (.lload 4, 2) := by decide +kernel
theorem dX8_write_62 : decode cX8_write 62 = .ok (.invokestatic 108, 3) := by decide +kernel
theorem dX8_write_65 : decode cX8_write 65 = .ok (.dastore, 1) := by decide +kernel
theorem dX8_write_66 : decode cX8_write 66 = .ok (.goto 19, 3) := by decide +kernel
theorem dX8_write_69 : decode cX8_write 69 = .ok (.aload_n 0, 1) := by decide +kernel
theorem dX8_write_70 : decode cX8_write 70 = .ok (.getfield 53, 3) := by decide +kernel
theorem dX8_write_73 : decode cX8_write 73 = .ok (.bipush 16, 2) := by decide +kernel
theorem dX8_write_75 : decode cX8_write 75 = .ok (.iload_n 1, 1) := by decide +kernel
theorem dX8_write_76 : decode cX8_write 76 = .ok (.imul, 1) := by decide +kernel
theorem dX8_write_77 : decode cX8_write 77 = .ok (.iload_n 3, 1) := by decide +kernel
theorem dX8_write_78 : decode cX8_write 78 = .ok (.iadd, 1) := by decide +kernel
theorem dX8_write_79 : decode cX8_write 79 = .ok (.lload 4, 2) := by decide +kernel
theorem dX8_write_81 : decode cX8_write 81 = .ok (.invokestatic 111, 3) := by decide +kernel
theorem dX8_write_84 : decode cX8_write 84 = .ok (.fastore, 1) := by decide +kernel
theorem dX8_write_85 : decode cX8_write 85 = .ok (.aload_n 0, 1) := by decide +kernel
theorem dX8_write_86 : decode cX8_write 86 = .ok (.iconst 1, 1) := by decide +kernel
theorem dX8_write_87 : decode cX8_write 87 = .ok (.invokevirtual 139, 3) := by decide +kernel
theorem dX8_write_90 : decode cX8_write 90 = .ok (.ireturn, 1) := by decide +kernel
set_option maxRecDepth 20000 in
theorem ggX8_read_X8_isLog : GoodIn wsX8_read wsX8_isLog := goodIn_r _ [7, 8, 9, 10, 6, 11] (by decide +kernel) (by decide +kernel)
set_option maxRecDepth 20000 in
theorem gX8_read_X8_isLog : GoodIn wsX8_read (va_wsS RX8 188 yX8_isLog wsX8_isLog) := goodIn_app (goodIn_of _ (by decide +kernel)) ggX8_read_X8_isLog
set_option maxRecDepth 20000 in
theorem ggX8_read_X8_rowOf : GoodIn wsX8_read wsX8_rowOf := goodIn_r _ [14] (by decide +kernel) (by decide +kernel)
set_option maxRecDepth 20000 in
theorem gX8_read_X8_rowOf : GoodIn wsX8_read (va_wsS RX8 195 yX8_rowOf wsX8_rowOf) := goodIn_app (goodIn_of _ (by decide +kernel)) ggX8_read_X8_rowOf
set_option maxRecDepth 20000 in
theorem ggX8_read_X8_cause : GoodIn wsX8_read wsX8_cause := goodIn_r _ [18, 19, 9, 10, 6, 11, 54, 55, 56, 57, 58, 59, 60, 61, 62, 63, 64, 65, 66, 67, 68, 69, 70, 71, 72, 73] (by decide +kernel) (by decide +kernel)
set_option maxRecDepth 20000 in
theorem gX8_read_X8_cause : GoodIn wsX8_read (wsV RX8 199 RX8 yX8_cause wsX8_cause) := goodIn_app (goodIn_of _ (by decide +kernel)) ggX8_read_X8_cause
set_option maxRecDepth 20000 in
theorem ggX8_read_X8_fails : GoodIn wsX8_read wsX8_fails := goodIn_r _ [23, 24, 25, 54, 55, 56, 57, 58, 59, 60, 61, 62, 63, 64, 65, 66, 67, 68, 69, 70, 71, 72, 73] (by decide +kernel) (by decide +kernel)
set_option maxRecDepth 20000 in
theorem gX8_read_X8_fails : GoodIn wsX8_read (wsV RX8 143 RX8 yX8_fails wsX8_fails) := goodIn_app (goodIn_of _ (by decide +kernel)) ggX8_read_X8_fails
set_option maxRecDepth 20000 in
theorem ggX8_read_Jxe99ae_doubleToLongBits_ccdee : GoodIn wsX8_read wsJxe99ae_doubleToLongBits_ccdee := goodIn_r _ [29, 30, 31, 32, 33, 34, 35, 36, 28, 37] (by decide +kernel) (by decide +kernel)
set_option maxRecDepth 20000 in
theorem gX8_read_Jxe99ae_doubleToLongBits_ccdee : GoodIn wsX8_read (va_wsS RX8 148 yJxe99ae_doubleToLongBits_ccdee wsJxe99ae_doubleToLongBits_ccdee) := goodIn_app (goodIn_of _ (by decide +kernel)) ggX8_read_Jxe99ae_doubleToLongBits_ccdee
set_option maxRecDepth 20000 in
theorem ggX8_read_Jxf58ca_floatToIntBits_5c35a : GoodIn wsX8_read wsJxf58ca_floatToIntBits_5c35a := goodIn_r _ [41, 42, 43, 44, 45, 46, 47, 48, 40, 49] (by decide +kernel) (by decide +kernel)
set_option maxRecDepth 20000 in
theorem gX8_read_Jxf58ca_floatToIntBits_5c35a : GoodIn wsX8_read (va_wsS RX8 152 yJxf58ca_floatToIntBits_5c35a wsJxf58ca_floatToIntBits_5c35a) := goodIn_app (goodIn_of _ (by decide +kernel)) ggX8_read_Jxf58ca_floatToIntBits_5c35a
set_option maxRecDepth 20000 in
theorem ggX8_read_X8_done : GoodIn wsX8_read wsX8_done := goodIn_r _ [53, 24, 54, 55, 56, 57, 58, 59, 60, 61, 62, 63, 64, 65, 66, 67, 68, 69, 70, 71, 72, 73] (by decide +kernel) (by decide +kernel)
set_option maxRecDepth 20000 in
theorem gX8_read_X8_done : GoodIn wsX8_read (wsV RX8 139 RX8 yX8_done wsX8_done) := goodIn_app (goodIn_of _ (by decide +kernel)) ggX8_read_X8_done
theorem dX8_read_0 : decode cX8_read 0 = .ok (.iload_n 1, 1) := by decide +kernel
theorem dX8_read_1 : decode cX8_read 1 = .ok (.invokestatic 188, 3) := by decide +kernel
theorem dX8_read_4 : decode cX8_read 4 = .ok (.ifCond .ne 6, 3) := by decide +kernel
theorem dX8_read_7 : decode cX8_read 7 = .ok (.bipush (-101), 2) := by decide +kernel
theorem dX8_read_9 : decode cX8_read 9 = .ok (.ireturn, 1) := by decide +kernel
theorem dX8_read_10 : decode cX8_read 10 = .ok (.aload_n 0, 1) := by decide +kernel
theorem dX8_read_11 : decode cX8_read 11 = .ok (.iload_n 1, 1) := by decide +kernel
theorem dX8_read_12 : decode cX8_read 12 = .ok (.iload_n 2, 1) := by decide +kernel
theorem dX8_read_13 : decode cX8_read 13 = .ok (.invokestatic 195, 3) := by decide +kernel
theorem dX8_read_16 : decode cX8_read 16 = .ok (.iload_n 3, 1) := by decide +kernel
theorem dX8_read_17 : decode cX8_read 17 = .ok (.invokevirtual 199, 3) := by decide +kernel
theorem dX8_read_20 : decode cX8_read 20 = .ok (.istore 4, 2) := by decide +kernel
theorem dX8_read_22 : decode cX8_read 22 = .ok (.iload 4, 2) := by decide +kernel
theorem dX8_read_24 : decode cX8_read 24 = .ok (.ifCond .eq 10, 3) := by decide +kernel
theorem dX8_read_27 : decode cX8_read 27 = .ok (.aload_n 0, 1) := by decide +kernel
theorem dX8_read_28 : decode cX8_read 28 = .ok (.iload 4, 2) := by decide +kernel
theorem dX8_read_30 : decode cX8_read 30 = .ok (.invokevirtual 143, 3) := by decide +kernel
theorem dX8_read_33 : decode cX8_read 33 = .ok (.ireturn, 1) := by decide +kernel
theorem dX8_read_34 : decode cX8_read 34 = .ok (.aload_n 0, 1) := by decide +kernel
theorem dX8_read_35 : decode cX8_read 35 = .ok (.iload_n 2, 1) := by decide +kernel
theorem dX8_read_36 : decode cX8_read 36 = .ok (.ifCond .eq 20, 3) := by decide +kernel
theorem dX8_read_39 : decode cX8_read 39 = .ok (.aload_n 0, 1) := by decide +kernel
theorem dX8_read_40 : decode cX8_read 40 = .ok (.getfield 56, 3) := by decide +kernel
theorem dX8_read_43 : decode cX8_read 43 = .ok (.bipush 16, 2) := by decide +kernel
theorem dX8_read_45 : decode cX8_read 45 = .ok (.iload_n 1, 1) := by decide +kernel
theorem dX8_read_46 : decode cX8_read 46 = .ok (.imul, 1) := by decide +kernel
theorem dX8_read_47 : decode cX8_read 47 = .ok (.iload_n 3, 1) := by decide +kernel
theorem dX8_read_48 : decode cX8_read 48 = .ok (.iadd, 1) := by decide +kernel
theorem dX8_read_49 : decode cX8_read 49 = .ok (.daload, 1) := by decide +kernel
theorem dX8_read_50 : decode cX8_read 50 = .ok (.invokestatic 148, 3) := by decide +kernel
theorem dX8_read_53 : decode cX8_read 53 = .ok (.goto 18, 3) := by decide +kernel
theorem dX8_read_56 : decode cX8_read 56 = .ok (.aload_n 0, 1) := by decide +kernel
theorem dX8_read_57 : decode cX8_read 57 = .ok (.getfield 53, 3) := by decide +kernel
theorem dX8_read_60 : decode cX8_read 60 = .ok (.bipush 16, 2) := by decide +kernel
theorem dX8_read_62 : decode cX8_read 62 = .ok (.iload_n 1, 1) := by decide +kernel
theorem dX8_read_63 : decode cX8_read 63 = .ok (.imul, 1) := by decide +kernel
theorem dX8_read_64 : decode cX8_read 64 = .ok (.iload_n 3, 1) := by decide +kernel
theorem dX8_read_65 : decode cX8_read 65 = .ok (.iadd, 1) := by decide +kernel
theorem dX8_read_66 : decode cX8_read 66 = .ok (.faload, 1) := by decide +kernel
theorem dX8_read_67 : decode cX8_read 67 = .ok (.invokestatic 152, 3) := by decide +kernel
theorem dX8_read_70 : decode cX8_read 70 = .ok (.i2l, 1) := by decide +kernel
theorem dX8_read_71 : decode cX8_read 71 = .ok (.putfield 202, 3) := by decide +kernel
theorem dX8_read_74 : decode cX8_read 74 = .ok (.aload_n 0, 1) := by decide +kernel
theorem dX8_read_75 : decode cX8_read 75 = .ok (.iconst 1, 1) := by decide +kernel
theorem dX8_read_76 : decode cX8_read 76 = .ok (.invokevirtual 139, 3) := by decide +kernel
theorem dX8_read_79 : decode cX8_read 79 = .ok (.ireturn, 1) := by decide +kernel
theorem dX8_seen_0 : decode cX8_seen 0 = .ok (.aload_n 0, 1) := by decide +kernel
theorem dX8_seen_1 : decode cX8_seen 1 = .ok (.getfield 202, 3) := by decide +kernel
theorem dX8_seen_4 : decode cX8_seen 4 = .ok (.lreturn, 1) := by decide +kernel
set_option maxRecDepth 20000 in
theorem ggX8_note_X8_isLog : GoodIn wsX8_note wsX8_isLog := goodIn_r _ [9, 10, 11, 12, 8, 13] (by decide +kernel) (by decide +kernel)
set_option maxRecDepth 20000 in
theorem gX8_note_X8_isLog : GoodIn wsX8_note (va_wsS RX8 188 yX8_isLog wsX8_isLog) := goodIn_app (goodIn_of _ (by decide +kernel)) ggX8_note_X8_isLog
set_option maxRecDepth 20000 in
theorem ggX8_note_X8_isDial : GoodIn wsX8_note wsX8_isDial := goodIn_r _ [17, 18, 11, 12, 8, 13, 37, 38, 39, 40, 41, 42, 43, 44, 45, 46, 47, 48, 49, 50, 51, 52, 53, 54, 55, 56] (by decide +kernel) (by decide +kernel)
set_option maxRecDepth 20000 in
theorem gX8_note_X8_isDial : GoodIn wsX8_note (wsV RX8 131 RX8 yX8_isDial wsX8_isDial) := goodIn_app (goodIn_of _ (by decide +kernel)) ggX8_note_X8_isDial
set_option maxRecDepth 20000 in
theorem ggX8_note_X8_rowOf : GoodIn wsX8_note wsX8_rowOf := goodIn_r _ [21] (by decide +kernel) (by decide +kernel)
set_option maxRecDepth 20000 in
theorem gX8_note_X8_rowOf : GoodIn wsX8_note (va_wsS RX8 195 yX8_rowOf wsX8_rowOf) := goodIn_app (goodIn_of _ (by decide +kernel)) ggX8_note_X8_rowOf
set_option maxRecDepth 20000 in
theorem ggX8_note_X8_cause : GoodIn wsX8_note wsX8_cause := goodIn_r _ [25, 26, 11, 12, 8, 13, 37, 38, 39, 40, 41, 42, 43, 44, 45, 46, 47, 48, 49, 50, 51, 52, 53, 54, 55, 56] (by decide +kernel) (by decide +kernel)
set_option maxRecDepth 20000 in
theorem gX8_note_X8_cause : GoodIn wsX8_note (wsV RX8 199 RX8 yX8_cause wsX8_cause) := goodIn_app (goodIn_of _ (by decide +kernel)) ggX8_note_X8_cause
set_option maxRecDepth 20000 in
theorem ggX8_note_X8_fails : GoodIn wsX8_note wsX8_fails := goodIn_r _ [30, 31, 32, 37, 38, 39, 40, 41, 42, 43, 44, 45, 46, 47, 48, 49, 50, 51, 52, 53, 54, 55, 56] (by decide +kernel) (by decide +kernel)
set_option maxRecDepth 20000 in
theorem gX8_note_X8_fails : GoodIn wsX8_note (wsV RX8 143 RX8 yX8_fails wsX8_fails) := goodIn_app (goodIn_of _ (by decide +kernel)) ggX8_note_X8_fails
set_option maxRecDepth 20000 in
theorem ggX8_note_X8_done : GoodIn wsX8_note wsX8_done := goodIn_r _ [36, 31, 37, 38, 39, 40, 41, 42, 43, 44, 45, 46, 47, 48, 49, 50, 51, 52, 53, 54, 55, 56] (by decide +kernel) (by decide +kernel)
set_option maxRecDepth 20000 in
theorem gX8_note_X8_done : GoodIn wsX8_note (wsV RX8 139 RX8 yX8_done wsX8_done) := goodIn_app (goodIn_of _ (by decide +kernel)) ggX8_note_X8_done
theorem dX8_note_0 : decode cX8_note 0 = .ok (.iload_n 1, 1) := by decide +kernel
theorem dX8_note_1 : decode cX8_note 1 = .ok (.invokestatic 188, 3) := by decide +kernel
theorem dX8_note_4 : decode cX8_note 4 = .ok (.ifCond .eq 12, 3) := by decide +kernel
theorem dX8_note_7 : decode cX8_note 7 = .ok (.aload_n 0, 1) := by decide +kernel
theorem dX8_note_8 : decode cX8_note 8 = .ok (.iload 4, 2) := by decide +kernel
theorem dX8_note_10 : decode cX8_note 10 = .ok (.invokevirtual 131, 3) := by decide +kernel
theorem dX8_note_13 : decode cX8_note 13 = .ok (.ifCond .ne 6, 3) := by decide +kernel
theorem dX8_note_16 : decode cX8_note 16 = .ok (.bipush (-101), 2) := by decide +kernel
theorem dX8_note_18 : decode cX8_note 18 = .ok (.ireturn, 1) := by decide +kernel
theorem dX8_note_19 : decode cX8_note 19 = .ok (.aload_n 0, 1) := by decide +kernel
theorem dX8_note_20 : decode cX8_note 20 = .ok (.iload_n 1, 1) := by decide +kernel
theorem dX8_note_21 : decode cX8_note 21 = .ok (.iload_n 2, 1) := by decide +kernel
theorem dX8_note_22 : decode cX8_note 22 = .ok (.invokestatic 195, 3) := by decide +kernel
theorem dX8_note_25 : decode cX8_note 25 = .ok (.iload_n 3, 1) := by decide +kernel
theorem dX8_note_26 : decode cX8_note 26 = .ok (.invokevirtual 199, 3) := by decide +kernel
theorem dX8_note_29 : decode cX8_note 29 = .ok (.istore 5, 2) := by decide +kernel
theorem dX8_note_31 : decode cX8_note 31 = .ok (.iload 5, 2) := by decide +kernel
theorem dX8_note_33 : decode cX8_note 33 = .ok (.ifCond .eq 10, 3) := by decide +kernel
theorem dX8_note_36 : decode cX8_note 36 = .ok (.aload_n 0, 1) := by decide +kernel
theorem dX8_note_37 : decode cX8_note 37 = .ok (.iload 5, 2) := by decide +kernel
theorem dX8_note_39 : decode cX8_note 39 = .ok (.invokevirtual 143, 3) := by decide +kernel
theorem dX8_note_42 : decode cX8_note 42 = .ok (.ireturn, 1) := by decide +kernel
theorem dX8_note_43 : decode cX8_note 43 = .ok (.iload_n 2, 1) := by decide +kernel
theorem dX8_note_44 : decode cX8_note 44 = .ok (.ifCond .eq 45, 3) := by decide +kernel
theorem dX8_note_47 : decode cX8_note 47 = .ok (.aload_n 0, 1) := by decide +kernel
theorem dX8_note_48 : decode cX8_note 48 = .ok (.getfield 56, 3) := by decide +kernel
theorem dX8_note_51 : decode cX8_note 51 = .ok (.bipush 16, 2) := by decide +kernel
theorem dX8_note_53 : decode cX8_note 53 = .ok (.iload_n 1, 1) := by decide +kernel
theorem dX8_note_54 : decode cX8_note 54 = .ok (.imul, 1) := by decide +kernel
theorem dX8_note_55 : decode cX8_note 55 = .ok (.iload_n 3, 1) := by decide +kernel
theorem dX8_note_56 : decode cX8_note 56 = .ok (.iadd, 1) := by decide +kernel
theorem dX8_note_57 : decode cX8_note 57 = .ok (.aload_n 0, 1) := by decide +kernel
theorem dX8_note_58 : decode cX8_note 58 = .ok (.getfield 7, 3) := by decide +kernel
theorem dX8_note_61 : decode cX8_note 61 = .ok (.iload 4, 2) := by decide +kernel
theorem dX8_note_63 : decode cX8_note 63 = .ok (.baload, 1) := by decide +kernel
theorem dX8_note_64 : decode cX8_note 64 = .ok (.ifCond .eq 13, 3) := by decide +kernel
theorem dX8_note_67 : decode cX8_note 67 = .ok (.aload_n 0, 1) := by decide +kernel
theorem dX8_note_68 : decode cX8_note 68 = .ok (.getfield 24, 3) := by decide +kernel
theorem dX8_note_71 : decode cX8_note 71 = .ok (.iload 4, 2) := by decide +kernel
theorem dX8_note_73 : decode cX8_note 73 = .ok (.daload, 1) := by decide +kernel
theorem dX8_note_74 : decode cX8_note 74 = .ok (.goto 11, 3) := by decide +kernel
theorem dX8_note_77 : decode cX8_note 77 = .ok (.aload_n 0, 1) := by decide +kernel
theorem dX8_note_78 : decode cX8_note 78 = .ok (.getfield 17, 3) := by decide +kernel
theorem dX8_note_81 : decode cX8_note 81 = .ok (.iload 4, 2) := by decide +kernel
theorem dX8_note_83 : decode cX8_note 83 = .ok (.faload, 1) := by decide +kernel
theorem dX8_note_84 : decode cX8_note 84 = .ok (.f2d, 1) := by decide +kernel
theorem dX8_note_85 : decode cX8_note 85 = .ok (.dastore, 1) := by decide +kernel
theorem dX8_note_86 : decode cX8_note 86 = .ok (.goto 42, 3) := by decide +kernel
theorem dX8_note_89 : decode cX8_note 89 = .ok (.aload_n 0, 1) := by decide +kernel
theorem dX8_note_90 : decode cX8_note 90 = .ok (.getfield 53, 3) := by decide +kernel
theorem dX8_note_93 : decode cX8_note 93 = .ok (.bipush 16, 2) := by decide +kernel
theorem dX8_note_95 : decode cX8_note 95 = .ok (.iload_n 1, 1) := by decide +kernel
theorem dX8_note_96 : decode cX8_note 96 = .ok (.imul, 1) := by decide +kernel
theorem dX8_note_97 : decode cX8_note 97 = .ok (.iload_n 3, 1) := by decide +kernel
theorem dX8_note_98 : decode cX8_note 98 = .ok (.iadd, 1) := by decide +kernel
theorem dX8_note_99 : decode cX8_note 99 = .ok (.aload_n 0, 1) := by decide +kernel
theorem dX8_note_100 : decode cX8_note 100 = .ok (.getfield 7, 3) := by decide +kernel
theorem dX8_note_103 : decode cX8_note 103 = .ok (.iload 4, 2) := by decide +kernel
theorem dX8_note_105 : decode cX8_note 105 = .ok (.baload, 1) := by decide +kernel
theorem dX8_note_106 : decode cX8_note 106 = .ok (.ifCond .eq 14, 3) := by decide +kernel
theorem dX8_note_109 : decode cX8_note 109 = .ok (.aload_n 0, 1) := by decide +kernel
theorem dX8_note_110 : decode cX8_note 110 = .ok (.getfield 24, 3) := by decide +kernel
theorem dX8_note_113 : decode cX8_note 113 = .ok (.iload 4, 2) := by decide +kernel
theorem dX8_note_115 : decode cX8_note 115 = .ok (.daload, 1) := by decide +kernel
theorem dX8_note_116 : decode cX8_note 116 = .ok (.d2f, 1) := by decide +kernel
theorem dX8_note_117 : decode cX8_note 117 = .ok (.goto 10, 3) := by decide +kernel
theorem dX8_note_120 : decode cX8_note 120 = .ok (.aload_n 0, 1) := by decide +kernel
theorem dX8_note_121 : decode cX8_note 121 = .ok (.getfield 17, 3) := by decide +kernel
theorem dX8_note_124 : decode cX8_note 124 = .ok (.iload 4, 2) := by decide +kernel
theorem dX8_note_126 : decode cX8_note 126 = .ok (.faload, 1) := by decide +kernel
theorem dX8_note_127 : decode cX8_note 127 = .ok (.fastore, 1) := by decide +kernel
theorem dX8_note_128 : decode cX8_note 128 = .ok (.aload_n 0, 1) := by decide +kernel
theorem dX8_note_129 : decode cX8_note 129 = .ok (.iconst 1, 1) := by decide +kernel
theorem dX8_note_130 : decode cX8_note 130 = .ok (.invokevirtual 139, 3) := by decide +kernel
theorem dX8_note_133 : decode cX8_note 133 = .ok (.ireturn, 1) := by decide +kernel
set_option maxRecDepth 20000 in
theorem ggX8_recall_X8_isLog : GoodIn wsX8_recall wsX8_isLog := goodIn_r _ [11, 12, 13, 14, 10, 15] (by decide +kernel) (by decide +kernel)
set_option maxRecDepth 20000 in
theorem gX8_recall_X8_isLog : GoodIn wsX8_recall (va_wsS RX8 188 yX8_isLog wsX8_isLog) := goodIn_app (goodIn_of _ (by decide +kernel)) ggX8_recall_X8_isLog
set_option maxRecDepth 20000 in
theorem ggX8_recall_X8_isDial : GoodIn wsX8_recall wsX8_isDial := goodIn_r _ [19, 20, 13, 14, 10, 15, 49, 50, 51, 52, 53, 54, 55, 56, 57, 58, 59, 60, 61, 62, 63, 64, 65, 66, 67, 68] (by decide +kernel) (by decide +kernel)
set_option maxRecDepth 20000 in
theorem gX8_recall_X8_isDial : GoodIn wsX8_recall (wsV RX8 131 RX8 yX8_isDial wsX8_isDial) := goodIn_app (goodIn_of _ (by decide +kernel)) ggX8_recall_X8_isDial
set_option maxRecDepth 20000 in
theorem ggX8_recall_X8_rowOf : GoodIn wsX8_recall wsX8_rowOf := goodIn_r _ [23] (by decide +kernel) (by decide +kernel)
set_option maxRecDepth 20000 in
theorem gX8_recall_X8_rowOf : GoodIn wsX8_recall (va_wsS RX8 195 yX8_rowOf wsX8_rowOf) := goodIn_app (goodIn_of _ (by decide +kernel)) ggX8_recall_X8_rowOf
set_option maxRecDepth 20000 in
theorem ggX8_recall_X8_cause : GoodIn wsX8_recall wsX8_cause := goodIn_r _ [27, 28, 13, 14, 10, 15, 49, 50, 51, 52, 53, 54, 55, 56, 57, 58, 59, 60, 61, 62, 63, 64, 65, 66, 67, 68] (by decide +kernel) (by decide +kernel)
set_option maxRecDepth 20000 in
theorem gX8_recall_X8_cause : GoodIn wsX8_recall (wsV RX8 199 RX8 yX8_cause wsX8_cause) := goodIn_app (goodIn_of _ (by decide +kernel)) ggX8_recall_X8_cause
set_option maxRecDepth 20000 in
theorem ggX8_recall_X8_fails : GoodIn wsX8_recall wsX8_fails := goodIn_r _ [32, 33, 34, 49, 50, 51, 52, 53, 54, 55, 56, 57, 58, 59, 60, 61, 62, 63, 64, 65, 66, 67, 68] (by decide +kernel) (by decide +kernel)
set_option maxRecDepth 20000 in
theorem gX8_recall_X8_fails : GoodIn wsX8_recall (wsV RX8 143 RX8 yX8_fails wsX8_fails) := goodIn_app (goodIn_of _ (by decide +kernel)) ggX8_recall_X8_fails
set_option maxRecDepth 20000 in
theorem ggX8_recall_X8_isEndless : GoodIn wsX8_recall wsX8_isEndless := goodIn_r _ [37, 38, 39] (by decide +kernel) (by decide +kernel)
set_option maxRecDepth 20000 in
theorem gX8_recall_X8_isEndless : GoodIn wsX8_recall (va_wsS RX8 119 yX8_isEndless wsX8_isEndless) := goodIn_app (goodIn_of _ (by decide +kernel)) ggX8_recall_X8_isEndless
set_option maxRecDepth 20000 in
theorem ggX8_recall_X8_isEndlessFloat : GoodIn wsX8_recall wsX8_isEndlessFloat := goodIn_r _ [42, 43, 44] (by decide +kernel) (by decide +kernel)
set_option maxRecDepth 20000 in
theorem gX8_recall_X8_isEndlessFloat : GoodIn wsX8_recall (va_wsS RX8 115 yX8_isEndlessFloat wsX8_isEndlessFloat) := goodIn_app (goodIn_of _ (by decide +kernel)) ggX8_recall_X8_isEndlessFloat
set_option maxRecDepth 20000 in
theorem ggX8_recall_X8_done : GoodIn wsX8_recall wsX8_done := goodIn_r _ [48, 33, 49, 50, 51, 52, 53, 54, 55, 56, 57, 58, 59, 60, 61, 62, 63, 64, 65, 66, 67, 68] (by decide +kernel) (by decide +kernel)
set_option maxRecDepth 20000 in
theorem gX8_recall_X8_done : GoodIn wsX8_recall (wsV RX8 139 RX8 yX8_done wsX8_done) := goodIn_app (goodIn_of _ (by decide +kernel)) ggX8_recall_X8_done
theorem dX8_recall_0 : decode cX8_recall 0 = .ok (.iload_n 1, 1) := by decide +kernel
theorem dX8_recall_1 : decode cX8_recall 1 = .ok (.invokestatic 188, 3) := by decide +kernel
theorem dX8_recall_4 : decode cX8_recall 4 = .ok (.ifCond .eq 12, 3) := by decide +kernel
theorem dX8_recall_7 : decode cX8_recall 7 = .ok (.aload_n 0, 1) := by decide +kernel
theorem dX8_recall_8 : decode cX8_recall 8 = .ok (.iload 4, 2) := by decide +kernel
theorem dX8_recall_10 : decode cX8_recall 10 = .ok (.invokevirtual 131, 3) := by decide +kernel
theorem dX8_recall_13 : decode cX8_recall 13 = .ok (.ifCond .ne 6, 3) := by decide +kernel
theorem dX8_recall_16 : decode cX8_recall 16 = .ok (.bipush (-101), 2) := by decide +kernel
theorem dX8_recall_18 : decode cX8_recall 18 = .ok (.ireturn, 1) := by decide +kernel
theorem dX8_recall_19 : decode cX8_recall 19 = .ok (.aload_n 0, 1) := by decide +kernel
theorem dX8_recall_20 : decode cX8_recall 20 = .ok (.iload_n 1, 1) := by decide +kernel
theorem dX8_recall_21 : decode cX8_recall 21 = .ok (.iload_n 2, 1) := by decide +kernel
theorem dX8_recall_22 : decode cX8_recall 22 = .ok (.invokestatic 195, 3) := by decide +kernel
theorem dX8_recall_25 : decode cX8_recall 25 = .ok (.iload_n 3, 1) := by decide +kernel
theorem dX8_recall_26 : decode cX8_recall 26 = .ok (.invokevirtual 199, 3) := by decide +kernel
theorem dX8_recall_29 : decode cX8_recall 29 = .ok (.istore 5, 2) := by decide +kernel
theorem dX8_recall_31 : decode cX8_recall 31 = .ok (.iload 5, 2) := by decide +kernel
theorem dX8_recall_33 : decode cX8_recall 33 = .ok (.ifCond .eq 10, 3) := by decide +kernel
theorem dX8_recall_36 : decode cX8_recall 36 = .ok (.aload_n 0, 1) := by decide +kernel
theorem dX8_recall_37 : decode cX8_recall 37 = .ok (.iload 5, 2) := by decide +kernel
theorem dX8_recall_39 : decode cX8_recall 39 = .ok (.invokevirtual 143, 3) := by decide +kernel
theorem dX8_recall_42 : decode cX8_recall 42 = .ok (.ireturn, 1) := by decide +kernel
theorem dX8_recall_43 : decode cX8_recall 43 = .ok (.iload_n 2, 1) := by decide +kernel
theorem dX8_recall_44 : decode cX8_recall 44 = .ok (.ifCond .eq 17, 3) := by decide +kernel
theorem dX8_recall_47 : decode cX8_recall 47 = .ok (.aload_n 0, 1) := by decide +kernel
theorem dX8_recall_48 : decode cX8_recall 48 = .ok (.getfield 56, 3) := by decide +kernel
theorem dX8_recall_51 : decode cX8_recall 51 = .ok (.bipush 16, 2) := by decide +kernel
theorem dX8_recall_53 : decode cX8_recall 53 = .ok (.iload_n 1, 1) := by decide +kernel
theorem dX8_recall_54 : decode cX8_recall 54 = .ok (.imul, 1) := by decide +kernel
theorem dX8_recall_55 : decode cX8_recall 55 = .ok (.iload_n 3, 1) := by decide +kernel
theorem dX8_recall_56 : decode cX8_recall 56 = .ok (.iadd, 1) := by decide +kernel
theorem dX8_recall_57 : decode cX8_recall 57 = .ok (.daload, 1) := by decide +kernel
theorem dX8_recall_58 : decode cX8_recall 58 = .ok (.goto 15, 3) := by decide +kernel
theorem dX8_recall_61 : decode cX8_recall 61 = .ok (.aload_n 0, 1) := by decide +kernel
theorem dX8_recall_62 : decode cX8_recall 62 = .ok (.getfield 53, 3) := by decide +kernel
theorem dX8_recall_65 : decode cX8_recall 65 = .ok (.bipush 16, 2) := by decide +kernel
theorem dX8_recall_67 : decode cX8_recall 67 = .ok (.iload_n 1, 1) := by decide +kernel
theorem dX8_recall_68 : decode cX8_recall 68 = .ok (.imul, 1) := by decide +kernel
theorem dX8_recall_69 : decode cX8_recall 69 = .ok (.iload_n 3, 1) := by decide +kernel
theorem dX8_recall_70 : decode cX8_recall 70 = .ok (.iadd, 1) := by decide +kernel
theorem dX8_recall_71 : decode cX8_recall 71 = .ok (.faload, 1) := by decide +kernel
theorem dX8_recall_72 : decode cX8_recall 72 = .ok (.f2d, 1) := by decide +kernel
theorem dX8_recall_73 : decode cX8_recall 73 = .ok (.dstore 6, 2) := by decide +kernel
theorem dX8_recall_75 : decode cX8_recall 75 = .ok (.dload 6, 2) := by decide +kernel
theorem dX8_recall_77 : decode cX8_recall 77 = .ok (.d2f, 1) := by decide +kernel
theorem dX8_recall_78 : decode cX8_recall 78 = .ok (.fstore 8, 2) := by decide +kernel
theorem dX8_recall_80 : decode cX8_recall 80 = .ok (.dload 6, 2) := by decide +kernel
theorem dX8_recall_82 : decode cX8_recall 82 = .ok (.invokestatic 119, 3) := by decide +kernel
theorem dX8_recall_85 : decode cX8_recall 85 = .ok (.ifCond .ne 21, 3) := by decide +kernel
theorem dX8_recall_88 : decode cX8_recall 88 = .ok (.aload_n 0, 1) := by decide +kernel
theorem dX8_recall_89 : decode cX8_recall 89 = .ok (.getfield 7, 3) := by decide +kernel
theorem dX8_recall_92 : decode cX8_recall 92 = .ok (.iload 4, 2) := by decide +kernel
theorem dX8_recall_94 : decode cX8_recall 94 = .ok (.baload, 1) := by decide +kernel
theorem dX8_recall_95 : decode cX8_recall 95 = .ok (.ifCond .ne 18, 3) := by decide +kernel
theorem dX8_recall_98 : decode cX8_recall 98 = .ok (.fload 8, 2) := by decide +kernel
theorem dX8_recall_100 : decode cX8_recall 100 = .ok (.invokestatic 115, 3) := by decide +kernel
theorem dX8_recall_103 : decode cX8_recall 103 = .ok (.ifCond .eq 10, 3) := by decide +kernel
theorem dX8_recall_106 : decode cX8_recall 106 = .ok (.aload_n 0, 1) := by decide +kernel
theorem dX8_recall_107 : decode cX8_recall 107 = .ok (.bipush (-15), 2) := by decide +kernel
theorem dX8_recall_109 : decode cX8_recall 109 = .ok (.invokevirtual 143, 3) := by decide +kernel
theorem dX8_recall_112 : decode cX8_recall 112 = .ok (.ireturn, 1) := by decide +kernel
theorem dX8_recall_113 : decode cX8_recall 113 = .ok (.aload_n 0, 1) := by decide +kernel
theorem dX8_recall_114 : decode cX8_recall 114 = .ok (.getfield 7, 3) := by decide +kernel
theorem dX8_recall_117 : decode cX8_recall 117 = .ok (.iload 4, 2) := by decide +kernel
theorem dX8_recall_119 : decode cX8_recall 119 = .ok (.baload, 1) := by decide +kernel
theorem dX8_recall_120 : decode cX8_recall 120 = .ok (.ifCond .eq 23, 3) := by decide +kernel
theorem dX8_recall_123 : decode cX8_recall 123 = .ok (.aload_n 0, 1) := by decide +kernel
theorem dX8_recall_124 : decode cX8_recall 124 = .ok (.getfield 24, 3) := by decide +kernel
theorem dX8_recall_127 : decode cX8_recall 127 = .ok (.iload 4, 2) := by decide +kernel
theorem dX8_recall_129 : decode cX8_recall 129 = .ok (.dload 6, 2) := by decide +kernel
theorem dX8_recall_131 : decode cX8_recall 131 = .ok (.aload_n 0, 1) := by decide +kernel
theorem dX8_recall_132 : decode cX8_recall 132 = .ok (.getfield 20, 3) := by decide +kernel
theorem dX8_recall_135 : decode cX8_recall 135 = .ok (.iload 4, 2) := by decide +kernel
theorem dX8_recall_137 : decode cX8_recall 137 = .ok (.daload, 1) := by decide +kernel
theorem dX8_recall_138 : decode cX8_recall 138 = .ok (.drem, 1) := by decide +kernel
theorem dX8_recall_139 : decode cX8_recall 139 = .ok (.dastore, 1) := by decide +kernel
theorem dX8_recall_140 : decode cX8_recall 140 = .ok (.goto 20, 3) := by decide +kernel
theorem dX8_recall_143 : decode cX8_recall 143 = .ok (.aload_n 0, 1) := by decide +kernel
theorem dX8_recall_144 : decode cX8_recall 144 = .ok (.getfield 17, 3) := by decide +kernel
theorem dX8_recall_147 : decode cX8_recall 147 = .ok (.iload 4, 2) := by decide +kernel
theorem dX8_recall_149 : decode cX8_recall 149 = .ok (.fload 8, 2) := by decide +kernel
theorem dX8_recall_151 : decode cX8_recall 151 = .ok (.aload_n 0, 1) := by decide +kernel
theorem dX8_recall_152 : decode cX8_recall 152 = .ok (.getfield 13, 3) := by decide +kernel
theorem dX8_recall_155 : decode cX8_recall 155 = .ok (.iload 4, 2) := by decide +kernel
theorem dX8_recall_157 : decode cX8_recall 157 = .ok (.faload, 1) := by decide +kernel
theorem dX8_recall_158 : decode cX8_recall 158 = .ok (.frem, 1) := by decide +kernel
theorem dX8_recall_159 : decode cX8_recall 159 = .ok (.fastore, 1) := by decide +kernel
theorem dX8_recall_160 : decode cX8_recall 160 = .ok (.aload_n 0, 1) := by decide +kernel
theorem dX8_recall_161 : decode cX8_recall 161 = .ok (.iconst 1, 1) := by decide +kernel
theorem dX8_recall_162 : decode cX8_recall 162 = .ok (.invokevirtual 139, 3) := by decide +kernel
theorem dX8_recall_165 : decode cX8_recall 165 = .ok (.ireturn, 1) := by decide +kernel
set_option maxRecDepth 20000 in
theorem ggX8_sift_X8_isLog : GoodIn wsX8_sift wsX8_isLog := goodIn_r _ [8, 9, 10, 11, 7, 12] (by decide +kernel) (by decide +kernel)
set_option maxRecDepth 20000 in
theorem gX8_sift_X8_isLog : GoodIn wsX8_sift (va_wsS RX8 188 yX8_isLog wsX8_isLog) := goodIn_app (goodIn_of _ (by decide +kernel)) ggX8_sift_X8_isLog
set_option maxRecDepth 20000 in
theorem ggX8_sift_X8_isFit : GoodIn wsX8_sift wsX8_isFit := goodIn_r _ [15, 16, 17, 7, 18, 19, 20, 21, 22, 23] (by decide +kernel) (by decide +kernel)
set_option maxRecDepth 20000 in
theorem gX8_sift_X8_isFit : GoodIn wsX8_sift (va_wsS RX8 104 yX8_isFit wsX8_isFit) := goodIn_app (goodIn_of _ (by decide +kernel)) ggX8_sift_X8_isFit
set_option maxRecDepth 20000 in
theorem ggX8_sift_X8_rowOf : GoodIn wsX8_sift wsX8_rowOf := goodIn_r _ [26] (by decide +kernel) (by decide +kernel)
set_option maxRecDepth 20000 in
theorem gX8_sift_X8_rowOf : GoodIn wsX8_sift (va_wsS RX8 195 yX8_rowOf wsX8_rowOf) := goodIn_app (goodIn_of _ (by decide +kernel)) ggX8_sift_X8_rowOf
set_option maxRecDepth 20000 in
theorem ggX8_sift_X8_fails : GoodIn wsX8_sift wsX8_fails := goodIn_r _ [30, 31, 32, 73, 74, 75, 76, 77, 78, 79, 80, 81, 82, 83, 84, 85, 86, 87, 88, 89, 90, 91, 92] (by decide +kernel) (by decide +kernel)
set_option maxRecDepth 20000 in
theorem gX8_sift_X8_fails : GoodIn wsX8_sift (wsV RX8 143 RX8 yX8_fails wsX8_fails) := goodIn_app (goodIn_of _ (by decide +kernel)) ggX8_sift_X8_fails
set_option maxRecDepth 20000 in
theorem ggX8_sift_X8_floatOf : GoodIn wsX8_sift wsX8_floatOf := goodIn_r _ [35, 36, 37, 38, 39] (by decide +kernel) (by decide +kernel)
set_option maxRecDepth 20000 in
theorem gX8_sift_X8_floatOf : GoodIn wsX8_sift (va_wsS RX8 111 yX8_floatOf wsX8_floatOf) := goodIn_app (goodIn_of _ (by decide +kernel)) ggX8_sift_X8_floatOf
set_option maxRecDepth 20000 in
theorem ggX8_sift_X8_doubleOf : GoodIn wsX8_sift wsX8_doubleOf := goodIn_r _ [42, 43, 44, 45, 46] (by decide +kernel) (by decide +kernel)
set_option maxRecDepth 20000 in
theorem gX8_sift_X8_doubleOf : GoodIn wsX8_sift (va_wsS RX8 108 yX8_doubleOf wsX8_doubleOf) := goodIn_app (goodIn_of _ (by decide +kernel)) ggX8_sift_X8_doubleOf
set_option maxRecDepth 20000 in
theorem ggX8_sift_Jxe99ae_doubleToLongBits_ccdee : GoodIn wsX8_sift wsJxe99ae_doubleToLongBits_ccdee := goodIn_r _ [50, 51, 52, 53, 46, 54, 55, 56, 49, 57] (by decide +kernel) (by decide +kernel)
set_option maxRecDepth 20000 in
theorem gX8_sift_Jxe99ae_doubleToLongBits_ccdee : GoodIn wsX8_sift (va_wsS RX8 148 yJxe99ae_doubleToLongBits_ccdee wsJxe99ae_doubleToLongBits_ccdee) := goodIn_app (goodIn_of _ (by decide +kernel)) ggX8_sift_Jxe99ae_doubleToLongBits_ccdee
set_option maxRecDepth 20000 in
theorem ggX8_sift_Jxf58ca_floatToIntBits_5c35a : GoodIn wsX8_sift wsJxf58ca_floatToIntBits_5c35a := goodIn_r _ [61, 62, 63, 64, 39, 65, 66, 67, 60, 68] (by decide +kernel) (by decide +kernel)
set_option maxRecDepth 20000 in
theorem gX8_sift_Jxf58ca_floatToIntBits_5c35a : GoodIn wsX8_sift (va_wsS RX8 152 yJxf58ca_floatToIntBits_5c35a wsJxf58ca_floatToIntBits_5c35a) := goodIn_app (goodIn_of _ (by decide +kernel)) ggX8_sift_Jxf58ca_floatToIntBits_5c35a
set_option maxRecDepth 20000 in
theorem ggX8_sift_X8_done : GoodIn wsX8_sift wsX8_done := goodIn_r _ [72, 31, 73, 74, 75, 76, 77, 78, 79, 80, 81, 82, 83, 84, 85, 86, 87, 88, 89, 90, 91, 92] (by decide +kernel) (by decide +kernel)
set_option maxRecDepth 20000 in
theorem gX8_sift_X8_done : GoodIn wsX8_sift (wsV RX8 139 RX8 yX8_done wsX8_done) := goodIn_app (goodIn_of _ (by decide +kernel)) ggX8_sift_X8_done
theorem dX8_sift_0 : decode cX8_sift 0 = .ok (.iload_n 1, 1) := by decide +kernel
theorem dX8_sift_1 : decode cX8_sift 1 = .ok (.invokestatic 188, 3) := by decide +kernel
theorem dX8_sift_4 : decode cX8_sift 4 = .ok (.ifCond .ne 6, 3) := by decide +kernel
theorem dX8_sift_7 : decode cX8_sift 7 = .ok (.bipush (-101), 2) := by decide +kernel
theorem dX8_sift_9 : decode cX8_sift 9 = .ok (.ireturn, 1) := by decide +kernel
theorem dX8_sift_10 : decode cX8_sift 10 = .ok (.iload_n 2, 1) := by decide +kernel
theorem dX8_sift_11 : decode cX8_sift 11 = .ok (.lload_n 3, 1) := by decide +kernel
theorem dX8_sift_12 : decode cX8_sift 12 = .ok (.invokestatic 104, 3) := by decide +kernel
theorem dX8_sift_15 : decode cX8_sift 15 = .ok (.ifCond .ne 6, 3) := by decide +kernel
theorem dX8_sift_18 : decode cX8_sift 18 = .ok (.bipush (-102), 2) := by decide +kernel
theorem dX8_sift_20 : decode cX8_sift 20 = .ok (.ireturn, 1) := by decide +kernel
theorem dX8_sift_21 : decode cX8_sift 21 = .ok (.iload_n 1, 1) := by decide +kernel
theorem dX8_sift_22 : decode cX8_sift 22 = .ok (.iload_n 2, 1) := by decide +kernel
theorem dX8_sift_23 : decode cX8_sift 23 = .ok (.invokestatic 195, 3) := by decide +kernel
theorem dX8_sift_26 : decode cX8_sift 26 = .ok (.istore 5, 2) := by decide +kernel
theorem dX8_sift_28 : decode cX8_sift 28 = .ok (.aload_n 0, 1) := by decide +kernel
theorem dX8_sift_29 : decode cX8_sift 29 = .ok (.getfield 50, 3) := by decide +kernel
theorem dX8_sift_32 : decode cX8_sift 32 = .ok (.iload 5, 2) := by decide +kernel
theorem dX8_sift_34 : decode cX8_sift 34 = .ok (.iaload, 1) := by decide +kernel
theorem dX8_sift_35 : decode cX8_sift 35 = .ok (.iconst (-1), 1) := by decide +kernel
theorem dX8_sift_36 : decode cX8_sift 36 = .ok (.if_icmp .ne 10, 3) := by decide +kernel
theorem dX8_sift_39 : decode cX8_sift 39 = .ok (.aload_n 0, 1) := by decide +kernel
theorem dX8_sift_40 : decode cX8_sift 40 = .ok (.bipush (-11), 2) := by decide +kernel
theorem dX8_sift_42 : decode cX8_sift 42 = .ok (.invokevirtual 143, 3) := by decide +kernel
theorem dX8_sift_45 : decode cX8_sift 45 = .ok (.ireturn, 1) := by decide +kernel
theorem dX8_sift_46 : decode cX8_sift 46 = .ok (.iload_n 2, 1) := by decide +kernel
theorem dX8_sift_47 : decode cX8_sift 47 = .ok (.ifCond .eq 7, 3) := by decide +kernel
theorem dX8_sift_50 : decode cX8_sift 50 = .ok (.fconst 0, 1) := by decide +kernel
theorem dX8_sift_51 : decode cX8_sift 51 = .ok (.goto 7, 3) := by decide +kernel
theorem dX8_sift_54 : decode cX8_sift 54 = .ok (.lload_n 3, 1) := by decide +kernel
theorem dX8_sift_55 : decode cX8_sift 55 = .ok (.invokestatic 111, 3) := by decide +kernel
theorem dX8_sift_58 : decode cX8_sift 58 = .ok (.fstore 6, 2) := by decide +kernel
theorem dX8_sift_60 : decode cX8_sift 60 = .ok (.iload_n 2, 1) := by decide +kernel
theorem dX8_sift_61 : decode cX8_sift 61 = .ok (.ifCond .eq 10, 3) := by decide +kernel
theorem dX8_sift_64 : decode cX8_sift 64 = .ok (.lload_n 3, 1) := by decide +kernel
theorem dX8_sift_65 : decode cX8_sift 65 = .ok (.invokestatic 108, 3) := by decide +kernel
theorem dX8_sift_68 : decode cX8_sift 68 = .ok (.goto 4, 3) := by decide +kernel
theorem dX8_sift_71 : decode cX8_sift 71 = .ok (.dconst 0, 1) := by decide +kernel
theorem dX8_sift_72 : decode cX8_sift 72 = .ok (.dstore 7, 2) := by decide +kernel
theorem dX8_sift_74 : decode cX8_sift 74 = .ok (.iconst 0, 1) := by decide +kernel
theorem dX8_sift_75 : decode cX8_sift 75 = .ok (.istore 9, 2) := by decide +kernel
theorem dX8_sift_77 : decode cX8_sift 77 = .ok (.bipush 16, 2) := by decide +kernel
theorem dX8_sift_79 : decode cX8_sift 79 = .ok (.iload_n 1, 1) := by decide +kernel
theorem dX8_sift_80 : decode cX8_sift 80 = .ok (.imul, 1) := by decide +kernel
theorem dX8_sift_81 : decode cX8_sift 81 = .ok (.istore 10, 2) := by decide +kernel
theorem dX8_sift_83 : decode cX8_sift 83 = .ok (.iload 10, 2) := by decide +kernel
theorem dX8_sift_85 : decode cX8_sift 85 = .ok (.bipush 16, 2) := by decide +kernel
theorem dX8_sift_87 : decode cX8_sift 87 = .ok (.iload_n 1, 1) := by decide +kernel
theorem dX8_sift_88 : decode cX8_sift 88 = .ok (.imul, 1) := by decide +kernel
theorem dX8_sift_89 : decode cX8_sift 89 = .ok (.aload_n 0, 1) := by decide +kernel
theorem dX8_sift_90 : decode cX8_sift 90 = .ok (.getfield 50, 3) := by decide +kernel
theorem dX8_sift_93 : decode cX8_sift 93 = .ok (.iload 5, 2) := by decide +kernel
theorem dX8_sift_95 : decode cX8_sift 95 = .ok (.iaload, 1) := by decide +kernel
theorem dX8_sift_96 : decode cX8_sift 96 = .ok (.iadd, 1) := by decide +kernel
theorem dX8_sift_97 : decode cX8_sift 97 = .ok (.if_icmp .ge 108, 3) := by decide +kernel
theorem dX8_sift_100 : decode cX8_sift 100 = .ok (.iload_n 2, 1) := by decide +kernel
theorem dX8_sift_101 : decode cX8_sift 101 = .ok (.ifCond .eq 23, 3) := by decide +kernel
theorem dX8_sift_104 : decode cX8_sift 104 = .ok (.aload_n 0, 1) := by decide +kernel
theorem dX8_sift_105 : decode cX8_sift 105 = .ok (.getfield 56, 3) := by decide +kernel
theorem dX8_sift_108 : decode cX8_sift 108 = .ok (.iload 10, 2) := by decide +kernel
theorem dX8_sift_110 : decode cX8_sift 110 = .ok (.daload, 1) := by decide +kernel
theorem dX8_sift_111 : decode cX8_sift 111 = .ok (.dconst 0, 1) := by decide +kernel
theorem dX8_sift_112 : decode cX8_sift 112 = .ok (.dcmp .l, 1) := by decide +kernel
theorem dX8_sift_113 : decode cX8_sift 113 = .ok (.ifCond .eq 7, 3) := by decide +kernel
theorem dX8_sift_116 : decode cX8_sift 116 = .ok (.iconst 1, 1) := by decide +kernel
theorem dX8_sift_117 : decode cX8_sift 117 = .ok (.goto 24, 3) := by decide +kernel
theorem dX8_sift_120 : decode cX8_sift 120 = .ok (.iconst 0, 1) := by decide +kernel
theorem dX8_sift_121 : decode cX8_sift 121 = .ok (.goto 20, 3) := by decide +kernel
theorem dX8_sift_124 : decode cX8_sift 124 = .ok (.aload_n 0, 1) := by decide +kernel
theorem dX8_sift_125 : decode cX8_sift 125 = .ok (.getfield 53, 3) := by decide +kernel
theorem dX8_sift_128 : decode cX8_sift 128 = .ok (.iload 10, 2) := by decide +kernel
theorem dX8_sift_130 : decode cX8_sift 130 = .ok (.faload, 1) := by decide +kernel
theorem dX8_sift_131 : decode cX8_sift 131 = .ok (.fconst 0, 1) := by decide +kernel
theorem dX8_sift_132 : decode cX8_sift 132 = .ok (.fcmp .l, 1) := by decide +kernel
theorem dX8_sift_133 : decode cX8_sift 133 = .ok (.ifCond .eq 7, 3) := by decide +kernel
theorem dX8_sift_136 : decode cX8_sift 136 = .ok (.iconst 1, 1) := by decide +kernel
theorem dX8_sift_137 : decode cX8_sift 137 = .ok (.goto 4, 3) := by decide +kernel
theorem dX8_sift_140 : decode cX8_sift 140 = .ok (.iconst 0, 1) := by decide +kernel
theorem dX8_sift_141 : decode cX8_sift 141 = .ok (.istore 11, 2) := by decide +kernel
theorem dX8_sift_143 : decode cX8_sift 143 = .ok (.iload 9, 2) := by decide +kernel
theorem dX8_sift_145 : decode cX8_sift 145 = .ok (.iload 11, 2) := by decide +kernel
theorem dX8_sift_147 : decode cX8_sift 147 = .ok (.ifCond .eq 7, 3) := by decide +kernel
theorem dX8_sift_150 : decode cX8_sift 150 = .ok (.iconst 1, 1) := by decide +kernel
theorem dX8_sift_151 : decode cX8_sift 151 = .ok (.goto 4, 3) := by decide +kernel
theorem dX8_sift_154 : decode cX8_sift 154 = .ok (.iconst 0, 1) := by decide +kernel
theorem dX8_sift_155 : decode cX8_sift 155 = .ok (.iadd, 1) := by decide +kernel
theorem dX8_sift_156 : decode cX8_sift 156 = .ok (.istore 9, 2) := by decide +kernel
theorem dX8_sift_158 : decode cX8_sift 158 = .ok (.iload 11, 2) := by decide +kernel
theorem dX8_sift_160 : decode cX8_sift 160 = .ok (.ifCond .eq 22, 3) := by decide +kernel
theorem dX8_sift_163 : decode cX8_sift 163 = .ok (.iload_n 2, 1) := by decide +kernel
theorem dX8_sift_164 : decode cX8_sift 164 = .ok (.ifCond .eq 18, 3) := by decide +kernel
theorem dX8_sift_167 : decode cX8_sift 167 = .ok (.dload 7, 2) := by decide +kernel
theorem dX8_sift_169 : decode cX8_sift 169 = .ok (.aload_n 0, 1) := by decide +kernel
theorem dX8_sift_170 : decode cX8_sift 170 = .ok (.getfield 56, 3) := by decide +kernel
theorem dX8_sift_173 : decode cX8_sift 173 = .ok (.iload 10, 2) := by decide +kernel
theorem dX8_sift_175 : decode cX8_sift 175 = .ok (.daload, 1) := by decide +kernel
theorem dX8_sift_176 : decode cX8_sift 176 = .ok (.drem, 1) := by decide +kernel
theorem dX8_sift_177 : decode cX8_sift 177 = .ok (.dstore 7, 2) := by decide +kernel
theorem dX8_sift_179 : decode cX8_sift 179 = .ok (.goto 20, 3) := by decide +kernel
theorem dX8_sift_182 : decode cX8_sift 182 = .ok (.iload 11, 2) := by decide +kernel
theorem dX8_sift_184 : decode cX8_sift 184 = .ok (.ifCond .eq 15, 3) := by decide +kernel
theorem dX8_sift_187 : decode cX8_sift 187 = .ok (.fload 6, 2) := by decide +kernel
theorem dX8_sift_189 : decode cX8_sift 189 = .ok (.aload_n 0, 1) := by decide +kernel
theorem dX8_sift_190 : decode cX8_sift 190 = .ok (.getfield 53, 3) := by decide +kernel
theorem dX8_sift_193 : decode cX8_sift 193 = .ok (.iload 10, 2) := by decide +kernel
theorem dX8_sift_195 : decode cX8_sift 195 = .ok (.faload, 1) := by decide +kernel
theorem dX8_sift_196 : decode cX8_sift 196 = .ok (.frem, 1) := by decide +kernel
theorem dX8_sift_197 : decode cX8_sift 197 = .ok (.fstore 6, 2) := by decide +kernel
theorem dX8_sift_199 : decode cX8_sift 199 = .ok (.iinc 10 1, 3) := by decide +kernel
theorem dX8_sift_202 : decode cX8_sift 202 = .ok (.goto (-119), 3) := by decide +kernel
theorem dX8_sift_205 : decode cX8_sift 205 = .ok (.aload_n 0, 1) := by decide +kernel
theorem dX8_sift_206 : decode cX8_sift 206 = .ok (.iload_n 2, 1) := by decide +kernel
theorem dX8_sift_207 : decode cX8_sift 207 = .ok (.ifCond .eq 11, 3) := by decide +kernel
theorem dX8_sift_210 : decode cX8_sift 210 = .ok (.dload 7, 2) := by decide +kernel
theorem dX8_sift_212 : decode cX8_sift 212 = .ok (.invokestatic 148, 3) := by decide +kernel
theorem dX8_sift_215 : decode cX8_sift 215 = .ok (.goto 9, 3) := by decide +kernel
theorem dX8_sift_218 : decode cX8_sift 218 = .ok (.fload 6, 2) := by decide +kernel
theorem dX8_sift_220 : decode cX8_sift 220 = .ok (.invokestatic 152, 3) := by decide +kernel
theorem dX8_sift_223 : decode cX8_sift 223 = .ok (.i2l, 1) := by decide +kernel
theorem dX8_sift_224 : decode cX8_sift 224 = .ok (.putfield 202, 3) := by decide +kernel
theorem dX8_sift_227 : decode cX8_sift 227 = .ok (.aload_n 0, 1) := by decide +kernel
theorem dX8_sift_228 : decode cX8_sift 228 = .ok (.iload 9, 2) := by decide +kernel
theorem dX8_sift_230 : decode cX8_sift 230 = .ok (.invokevirtual 139, 3) := by decide +kernel
theorem dX8_sift_233 : decode cX8_sift 233 = .ok (.ireturn, 1) := by decide +kernel
set_option maxRecDepth 20000 in
theorem ggX8_castReal_Jxf58ca_floatToIntBits_5c35a : GoodIn wsX8_castReal wsJxf58ca_floatToIntBits_5c35a := goodIn_r _ [4, 5, 6, 7, 8, 9, 10, 11, 3, 12] (by decide +kernel) (by decide +kernel)
set_option maxRecDepth 20000 in
theorem gX8_castReal_Jxf58ca_floatToIntBits_5c35a : GoodIn wsX8_castReal (va_wsS RX8 152 yJxf58ca_floatToIntBits_5c35a wsJxf58ca_floatToIntBits_5c35a) := goodIn_app (goodIn_of _ (by decide +kernel)) ggX8_castReal_Jxf58ca_floatToIntBits_5c35a
set_option maxRecDepth 20000 in
theorem ggX8_castReal_Jxe99ae_doubleToLongBits_ccdee : GoodIn wsX8_castReal wsJxe99ae_doubleToLongBits_ccdee := goodIn_r _ [16, 17, 18, 19, 20, 21, 22, 23, 15, 24] (by decide +kernel) (by decide +kernel)
set_option maxRecDepth 20000 in
theorem gX8_castReal_Jxe99ae_doubleToLongBits_ccdee : GoodIn wsX8_castReal (va_wsS RX8 148 yJxe99ae_doubleToLongBits_ccdee wsJxe99ae_doubleToLongBits_ccdee) := goodIn_app (goodIn_of _ (by decide +kernel)) ggX8_castReal_Jxe99ae_doubleToLongBits_ccdee
theorem dX8_castReal_0 : decode cX8_castReal 0 = .ok (.iload_n 2, 1) := by decide +kernel
theorem dX8_castReal_1 : decode cX8_castReal 1 = .ok (.tableswitch 41 0 2 #[27, 31, 34], 27) := by decide +kernel
theorem dX8_castReal_28 : decode cX8_castReal 28 = .ok (.dload_n 0, 1) := by decide +kernel
theorem dX8_castReal_29 : decode cX8_castReal 29 = .ok (.d2i, 1) := by decide +kernel
theorem dX8_castReal_30 : decode cX8_castReal 30 = .ok (.i2l, 1) := by decide +kernel
theorem dX8_castReal_31 : decode cX8_castReal 31 = .ok (.lreturn, 1) := by decide +kernel
theorem dX8_castReal_32 : decode cX8_castReal 32 = .ok (.dload_n 0, 1) := by decide +kernel
theorem dX8_castReal_33 : decode cX8_castReal 33 = .ok (.d2l, 1) := by decide +kernel
theorem dX8_castReal_34 : decode cX8_castReal 34 = .ok (.lreturn, 1) := by decide +kernel
theorem dX8_castReal_35 : decode cX8_castReal 35 = .ok (.dload_n 0, 1) := by decide +kernel
theorem dX8_castReal_36 : decode cX8_castReal 36 = .ok (.d2f, 1) := by decide +kernel
theorem dX8_castReal_37 : decode cX8_castReal 37 = .ok (.invokestatic 152, 3) := by decide +kernel
theorem dX8_castReal_40 : decode cX8_castReal 40 = .ok (.i2l, 1) := by decide +kernel
theorem dX8_castReal_41 : decode cX8_castReal 41 = .ok (.lreturn, 1) := by decide +kernel
theorem dX8_castReal_42 : decode cX8_castReal 42 = .ok (.dload_n 0, 1) := by decide +kernel
theorem dX8_castReal_43 : decode cX8_castReal 43 = .ok (.invokestatic 148, 3) := by decide +kernel
theorem dX8_castReal_46 : decode cX8_castReal 46 = .ok (.lreturn, 1) := by decide +kernel
set_option maxRecDepth 20000 in
theorem ggX8_castWhole_Jxf58ca_floatToIntBits_5c35a : GoodIn wsX8_castWhole wsJxf58ca_floatToIntBits_5c35a := goodIn_r _ [4, 5, 6, 7, 8, 9, 10, 11, 3, 12] (by decide +kernel) (by decide +kernel)
set_option maxRecDepth 20000 in
theorem gX8_castWhole_Jxf58ca_floatToIntBits_5c35a : GoodIn wsX8_castWhole (va_wsS RX8 152 yJxf58ca_floatToIntBits_5c35a wsJxf58ca_floatToIntBits_5c35a) := goodIn_app (goodIn_of _ (by decide +kernel)) ggX8_castWhole_Jxf58ca_floatToIntBits_5c35a
set_option maxRecDepth 20000 in
theorem ggX8_castWhole_Jxe99ae_doubleToLongBits_ccdee : GoodIn wsX8_castWhole wsJxe99ae_doubleToLongBits_ccdee := goodIn_r _ [16, 17, 18, 19, 20, 21, 22, 23, 15, 24] (by decide +kernel) (by decide +kernel)
set_option maxRecDepth 20000 in
theorem gX8_castWhole_Jxe99ae_doubleToLongBits_ccdee : GoodIn wsX8_castWhole (va_wsS RX8 148 yJxe99ae_doubleToLongBits_ccdee wsJxe99ae_doubleToLongBits_ccdee) := goodIn_app (goodIn_of _ (by decide +kernel)) ggX8_castWhole_Jxe99ae_doubleToLongBits_ccdee
theorem dX8_castWhole_0 : decode cX8_castWhole 0 = .ok (.iload_n 2, 1) := by decide +kernel
theorem dX8_castWhole_1 : decode cX8_castWhole 1 = .ok (.tableswitch 40 0 2 #[27, 31, 33], 27) := by decide +kernel
theorem dX8_castWhole_28 : decode cX8_castWhole 28 = .ok (.lload_n 0, 1) := by decide +kernel
theorem dX8_castWhole_29 : decode cX8_castWhole 29 = .ok (.l2i, 1) := by decide +kernel
theorem dX8_castWhole_30 : decode cX8_castWhole 30 = .ok (.i2l, 1) := by decide +kernel
theorem dX8_castWhole_31 : decode cX8_castWhole 31 = .ok (.lreturn, 1) := by decide +kernel
theorem dX8_castWhole_32 : decode cX8_castWhole 32 = .ok (.lload_n 0, 1) := by decide +kernel
theorem dX8_castWhole_33 : decode cX8_castWhole 33 = .ok (.lreturn, 1) := by decide +kernel
theorem dX8_castWhole_34 : decode cX8_castWhole 34 = .ok (.lload_n 0, 1) := by decide +kernel
theorem dX8_castWhole_35 : decode cX8_castWhole 35 = .ok (.l2f, 1) := by decide +kernel
theorem dX8_castWhole_36 : decode cX8_castWhole 36 = .ok (.invokestatic 152, 3) := by decide +kernel
theorem dX8_castWhole_39 : decode cX8_castWhole 39 = .ok (.i2l, 1) := by decide +kernel
theorem dX8_castWhole_40 : decode cX8_castWhole 40 = .ok (.lreturn, 1) := by decide +kernel
theorem dX8_castWhole_41 : decode cX8_castWhole 41 = .ok (.lload_n 0, 1) := by decide +kernel
theorem dX8_castWhole_42 : decode cX8_castWhole 42 = .ok (.l2d, 1) := by decide +kernel
theorem dX8_castWhole_43 : decode cX8_castWhole 43 = .ok (.invokestatic 148, 3) := by decide +kernel
theorem dX8_castWhole_46 : decode cX8_castWhole 46 = .ok (.lreturn, 1) := by decide +kernel
set_option maxRecDepth 20000 in
theorem ggX8_cast_X8_in : GoodIn wsX8_cast wsX8_in := goodIn_r _ [6] (by decide +kernel) (by decide +kernel)
set_option maxRecDepth 20000 in
theorem gX8_cast_X8_in : GoodIn wsX8_cast (va_wsS RX8 100 yX8_in wsX8_in) := goodIn_app (goodIn_of _ (by decide +kernel)) ggX8_cast_X8_in
set_option maxRecDepth 20000 in
theorem ggX8_cast_X8_isNone : GoodIn wsX8_cast wsX8_isNone := goodIn_r _ [9, 10, 11, 12, 13] (by decide +kernel) (by decide +kernel)
set_option maxRecDepth 20000 in
theorem gX8_cast_X8_isNone : GoodIn wsX8_cast (va_wsS RX8 206 yX8_isNone wsX8_isNone) := goodIn_app (goodIn_of _ (by decide +kernel)) ggX8_cast_X8_isNone
set_option maxRecDepth 20000 in
theorem ggX8_cast_X8_castWhole : GoodIn wsX8_cast wsX8_castWhole := goodIn_r _ [16, 17, 18, 19, 20, 21, 22, 23, 24, 25, 26, 27, 28, 29, 30, 31, 32, 33, 34, 35, 36, 37, 38, 39, 40] (by decide +kernel) (by decide +kernel)
set_option maxRecDepth 20000 in
theorem gX8_cast_X8_castWhole : GoodIn wsX8_cast (va_wsS RX8 209 yX8_castWhole wsX8_castWhole) := goodIn_app (goodIn_of _ (by decide +kernel)) ggX8_cast_X8_castWhole
set_option maxRecDepth 20000 in
theorem ggX8_cast_X8_floatOf : GoodIn wsX8_cast wsX8_floatOf := goodIn_r _ [43, 44, 45, 46, 24] (by decide +kernel) (by decide +kernel)
set_option maxRecDepth 20000 in
theorem gX8_cast_X8_floatOf : GoodIn wsX8_cast (va_wsS RX8 111 yX8_floatOf wsX8_floatOf) := goodIn_app (goodIn_of _ (by decide +kernel)) ggX8_cast_X8_floatOf
set_option maxRecDepth 20000 in
theorem ggX8_cast_X8_doubleOf : GoodIn wsX8_cast wsX8_doubleOf := goodIn_r _ [49, 50, 51, 52, 36] (by decide +kernel) (by decide +kernel)
set_option maxRecDepth 20000 in
theorem gX8_cast_X8_doubleOf : GoodIn wsX8_cast (va_wsS RX8 108 yX8_doubleOf wsX8_doubleOf) := goodIn_app (goodIn_of _ (by decide +kernel)) ggX8_cast_X8_doubleOf
set_option maxRecDepth 20000 in
theorem ggX8_cast_X8_castReal : GoodIn wsX8_cast wsX8_castReal := goodIn_r _ [55, 17, 18, 19, 20, 21, 22, 23, 24, 25, 26, 27, 28, 29, 30, 31, 32, 33, 34, 35, 36, 37, 38, 39, 40] (by decide +kernel) (by decide +kernel)
set_option maxRecDepth 20000 in
theorem gX8_cast_X8_castReal : GoodIn wsX8_cast (va_wsS RX8 213 yX8_castReal wsX8_castReal) := goodIn_app (goodIn_of _ (by decide +kernel)) ggX8_cast_X8_castReal
theorem dX8_cast_0 : decode cX8_cast 0 = .ok (.iload_n 1, 1) := by decide +kernel
theorem dX8_cast_1 : decode cX8_cast 1 = .ok (.i2l, 1) := by decide +kernel
theorem dX8_cast_2 : decode cX8_cast 2 = .ok (.lconst 0, 1) := by decide +kernel
theorem dX8_cast_3 : decode cX8_cast 3 = .ok (.ldc2_w 184, 3) := by decide +kernel
theorem dX8_cast_6 : decode cX8_cast 6 = .ok (.invokestatic 100, 3) := by decide +kernel
theorem dX8_cast_9 : decode cX8_cast 9 = .ok (.ifCond .eq 23, 3) := by decide +kernel
theorem dX8_cast_12 : decode cX8_cast 12 = .ok (.iload_n 2, 1) := by decide +kernel
theorem dX8_cast_13 : decode cX8_cast 13 = .ok (.i2l, 1) := by decide +kernel
theorem dX8_cast_14 : decode cX8_cast 14 = .ok (.lconst 0, 1) := by decide +kernel
theorem dX8_cast_15 : decode cX8_cast 15 = .ok (.ldc2_w 184, 3) := by decide +kernel
theorem dX8_cast_18 : decode cX8_cast 18 = .ok (.invokestatic 100, 3) := by decide +kernel
theorem dX8_cast_21 : decode cX8_cast 21 = .ok (.ifCond .eq 11, 3) := by decide +kernel
theorem dX8_cast_24 : decode cX8_cast 24 = .ok (.iload_n 1, 1) := by decide +kernel
theorem dX8_cast_25 : decode cX8_cast 25 = .ok (.lload_n 3, 1) := by decide +kernel
theorem dX8_cast_26 : decode cX8_cast 26 = .ok (.invokestatic 206, 3) := by decide +kernel
theorem dX8_cast_29 : decode cX8_cast 29 = .ok (.ifCond .eq 6, 3) := by decide +kernel
theorem dX8_cast_32 : decode cX8_cast 32 = .ok (.bipush (-102), 2) := by decide +kernel
theorem dX8_cast_34 : decode cX8_cast 34 = .ok (.ireturn, 1) := by decide +kernel
theorem dX8_cast_35 : decode cX8_cast 35 = .ok (.aload_n 0, 1) := by decide +kernel
theorem dX8_cast_36 : decode cX8_cast 36 = .ok (.iload_n 1, 1) := by decide +kernel
theorem dX8_cast_37 : decode cX8_cast 37 = .ok (.iconst 2, 1) := by decide +kernel
theorem dX8_cast_38 : decode cX8_cast 38 = .ok (.if_icmp .ge 21, 3) := by decide +kernel
theorem dX8_cast_41 : decode cX8_cast 41 = .ok (.iload_n 1, 1) := by decide +kernel
theorem dX8_cast_42 : decode cX8_cast 42 = .ok (.ifCond .ne 9, 3) := by decide +kernel
theorem dX8_cast_45 : decode cX8_cast 45 = .ok (.lload_n 3, 1) := by decide +kernel
theorem dX8_cast_46 : decode cX8_cast 46 = .ok (.l2i, 1) := by decide +kernel
theorem dX8_cast_47 : decode cX8_cast 47 = .ok (.i2l, 1) := by decide +kernel
theorem dX8_cast_48 : decode cX8_cast 48 = .ok (.goto 4, 3) := by decide +kernel
theorem dX8_cast_51 : decode cX8_cast 51 = .ok (.lload_n 3, 1) := by decide +kernel
theorem dX8_cast_52 : decode cX8_cast 52 = .ok (.iload_n 2, 1) := by decide +kernel
theorem dX8_cast_53 : decode cX8_cast 53 = .ok (.invokestatic 209, 3) := by decide +kernel
theorem dX8_cast_56 : decode cX8_cast 56 = .ok (.goto 24, 3) := by decide +kernel
theorem dX8_cast_59 : decode cX8_cast 59 = .ok (.iload_n 1, 1) := by decide +kernel
theorem dX8_cast_60 : decode cX8_cast 60 = .ok (.iconst 2, 1) := by decide +kernel
theorem dX8_cast_61 : decode cX8_cast 61 = .ok (.if_icmp .ne 11, 3) := by decide +kernel
theorem dX8_cast_64 : decode cX8_cast 64 = .ok (.lload_n 3, 1) := by decide +kernel
theorem dX8_cast_65 : decode cX8_cast 65 = .ok (.invokestatic 111, 3) := by decide +kernel
theorem dX8_cast_68 : decode cX8_cast 68 = .ok (.f2d, 1) := by decide +kernel
theorem dX8_cast_69 : decode cX8_cast 69 = .ok (.goto 7, 3) := by decide +kernel
theorem dX8_cast_72 : decode cX8_cast 72 = .ok (.lload_n 3, 1) := by decide +kernel
theorem dX8_cast_73 : decode cX8_cast 73 = .ok (.invokestatic 108, 3) := by decide +kernel
theorem dX8_cast_76 : decode cX8_cast 76 = .ok (.iload_n 2, 1) := by decide +kernel
theorem dX8_cast_77 : decode cX8_cast 77 = .ok (.invokestatic 213, 3) := by decide +kernel
theorem dX8_cast_80 : decode cX8_cast 80 = .ok (.putfield 202, 3) := by decide +kernel
theorem dX8_cast_83 : decode cX8_cast 83 = .ok (.iconst 1, 1) := by decide +kernel
theorem dX8_cast_84 : decode cX8_cast 84 = .ok (.ireturn, 1) := by decide +kernel
set_option maxRecDepth 20000 in
theorem ggX8_left_X8_isNone : GoodIn wsX8_left wsX8_isNone := goodIn_r _ [5, 6, 7, 8, 9] (by decide +kernel) (by decide +kernel)
set_option maxRecDepth 20000 in
theorem gX8_left_X8_isNone : GoodIn wsX8_left (va_wsS RX8 206 yX8_isNone wsX8_isNone) := goodIn_app (goodIn_of _ (by decide +kernel)) ggX8_left_X8_isNone
set_option maxRecDepth 20000 in
theorem ggX8_left_X8_isFit : GoodIn wsX8_left wsX8_isFit := goodIn_r _ [12, 13, 14, 4, 15, 9, 16, 17, 18, 7] (by decide +kernel) (by decide +kernel)
set_option maxRecDepth 20000 in
theorem gX8_left_X8_isFit : GoodIn wsX8_left (va_wsS RX8 104 yX8_isFit wsX8_isFit) := goodIn_app (goodIn_of _ (by decide +kernel)) ggX8_left_X8_isFit
set_option maxRecDepth 20000 in
theorem ggX8_left_X8_doubleOf : GoodIn wsX8_left wsX8_doubleOf := goodIn_r _ [21, 22, 23, 24, 25] (by decide +kernel) (by decide +kernel)
set_option maxRecDepth 20000 in
theorem gX8_left_X8_doubleOf : GoodIn wsX8_left (va_wsS RX8 108 yX8_doubleOf wsX8_doubleOf) := goodIn_app (goodIn_of _ (by decide +kernel)) ggX8_left_X8_doubleOf
set_option maxRecDepth 20000 in
theorem ggX8_left_X8_floatOf : GoodIn wsX8_left wsX8_floatOf := goodIn_r _ [28, 29, 30, 31, 32] (by decide +kernel) (by decide +kernel)
set_option maxRecDepth 20000 in
theorem gX8_left_X8_floatOf : GoodIn wsX8_left (va_wsS RX8 111 yX8_floatOf wsX8_floatOf) := goodIn_app (goodIn_of _ (by decide +kernel)) ggX8_left_X8_floatOf
set_option maxRecDepth 20000 in
theorem ggX8_left_Jxe99ae_doubleToLongBits_ccdee : GoodIn wsX8_left wsJxe99ae_doubleToLongBits_ccdee := goodIn_r _ [36, 37, 38, 39, 25, 40, 41, 42, 35, 43] (by decide +kernel) (by decide +kernel)
set_option maxRecDepth 20000 in
theorem gX8_left_Jxe99ae_doubleToLongBits_ccdee : GoodIn wsX8_left (va_wsS RX8 148 yJxe99ae_doubleToLongBits_ccdee wsJxe99ae_doubleToLongBits_ccdee) := goodIn_app (goodIn_of _ (by decide +kernel)) ggX8_left_Jxe99ae_doubleToLongBits_ccdee
set_option maxRecDepth 20000 in
theorem ggX8_left_Jxf58ca_floatToIntBits_5c35a : GoodIn wsX8_left wsJxf58ca_floatToIntBits_5c35a := goodIn_r _ [47, 48, 49, 50, 32, 51, 52, 53, 46, 54] (by decide +kernel) (by decide +kernel)
set_option maxRecDepth 20000 in
theorem gX8_left_Jxf58ca_floatToIntBits_5c35a : GoodIn wsX8_left (va_wsS RX8 152 yJxf58ca_floatToIntBits_5c35a wsJxf58ca_floatToIntBits_5c35a) := goodIn_app (goodIn_of _ (by decide +kernel)) ggX8_left_Jxf58ca_floatToIntBits_5c35a
theorem dX8_left_0 : decode cX8_left 0 = .ok (.iload_n 1, 1) := by decide +kernel
theorem dX8_left_1 : decode cX8_left 1 = .ok (.ifCond .eq 7, 3) := by decide +kernel
theorem dX8_left_4 : decode cX8_left 4 = .ok (.iconst 3, 1) := by decide +kernel
theorem dX8_left_5 : decode cX8_left 5 = .ok (.goto 4, 3) := by decide +kernel
theorem dX8_left_8 : decode cX8_left 8 = .ok (.iconst 2, 1) := by decide +kernel
theorem dX8_left_9 : decode cX8_left 9 = .ok (.lload 4, 2) := by decide +kernel
theorem dX8_left_11 : decode cX8_left 11 = .ok (.invokestatic 206, 3) := by decide +kernel
theorem dX8_left_14 : decode cX8_left 14 = .ok (.istore 6, 2) := by decide +kernel
theorem dX8_left_16 : decode cX8_left 16 = .ok (.iload_n 1, 1) := by decide +kernel
theorem dX8_left_17 : decode cX8_left 17 = .ok (.lload_n 2, 1) := by decide +kernel
theorem dX8_left_18 : decode cX8_left 18 = .ok (.invokestatic 104, 3) := by decide +kernel
theorem dX8_left_21 : decode cX8_left 21 = .ok (.ifCond .eq 35, 3) := by decide +kernel
theorem dX8_left_24 : decode cX8_left 24 = .ok (.iload 6, 2) := by decide +kernel
theorem dX8_left_26 : decode cX8_left 26 = .ok (.ifCond .ne 30, 3) := by decide +kernel
theorem dX8_left_29 : decode cX8_left 29 = .ok (.iload_n 1, 1) := by decide +kernel
theorem dX8_left_30 : decode cX8_left 30 = .ok (.ifCond .eq 16, 3) := by decide +kernel
theorem dX8_left_33 : decode cX8_left 33 = .ok (.lload 4, 2) := by decide +kernel
theorem dX8_left_35 : decode cX8_left 35 = .ok (.invokestatic 108, 3) := by decide +kernel
theorem dX8_left_38 : decode cX8_left 38 = .ok (.dconst 0, 1) := by decide +kernel
theorem dX8_left_39 : decode cX8_left 39 = .ok (.dcmp .l, 1) := by decide +kernel
theorem dX8_left_40 : decode cX8_left 40 = .ok (.ifCond .ne 19, 3) := by decide +kernel
theorem dX8_left_43 : decode cX8_left 43 = .ok (.goto 13, 3) := by decide +kernel
theorem dX8_left_46 : decode cX8_left 46 = .ok (.lload 4, 2) := by decide +kernel
theorem dX8_left_48 : decode cX8_left 48 = .ok (.invokestatic 111, 3) := by decide +kernel
theorem dX8_left_51 : decode cX8_left 51 = .ok (.fconst 0, 1) := by decide +kernel
theorem dX8_left_52 : decode cX8_left 52 = .ok (.fcmp .l, 1) := by decide +kernel
theorem dX8_left_53 : decode cX8_left 53 = .ok (.ifCond .ne 6, 3) := by decide +kernel
theorem dX8_left_56 : decode cX8_left 56 = .ok (.bipush (-102), 2) := by decide +kernel
theorem dX8_left_58 : decode cX8_left 58 = .ok (.ireturn, 1) := by decide +kernel
theorem dX8_left_59 : decode cX8_left 59 = .ok (.aload_n 0, 1) := by decide +kernel
theorem dX8_left_60 : decode cX8_left 60 = .ok (.iload_n 1, 1) := by decide +kernel
theorem dX8_left_61 : decode cX8_left 61 = .ok (.ifCond .eq 19, 3) := by decide +kernel
theorem dX8_left_64 : decode cX8_left 64 = .ok (.lload_n 2, 1) := by decide +kernel
theorem dX8_left_65 : decode cX8_left 65 = .ok (.invokestatic 108, 3) := by decide +kernel
theorem dX8_left_68 : decode cX8_left 68 = .ok (.lload 4, 2) := by decide +kernel
theorem dX8_left_70 : decode cX8_left 70 = .ok (.invokestatic 108, 3) := by decide +kernel
theorem dX8_left_73 : decode cX8_left 73 = .ok (.drem, 1) := by decide +kernel
theorem dX8_left_74 : decode cX8_left 74 = .ok (.invokestatic 148, 3) := by decide +kernel
theorem dX8_left_77 : decode cX8_left 77 = .ok (.goto 17, 3) := by decide +kernel
theorem dX8_left_80 : decode cX8_left 80 = .ok (.lload_n 2, 1) := by decide +kernel
theorem dX8_left_81 : decode cX8_left 81 = .ok (.invokestatic 111, 3) := by decide +kernel
theorem dX8_left_84 : decode cX8_left 84 = .ok (.lload 4, 2) := by decide +kernel
theorem dX8_left_86 : decode cX8_left 86 = .ok (.invokestatic 111, 3) := by decide +kernel
theorem dX8_left_89 : decode cX8_left 89 = .ok (.frem, 1) := by decide +kernel
theorem dX8_left_90 : decode cX8_left 90 = .ok (.invokestatic 152, 3) := by decide +kernel
theorem dX8_left_93 : decode cX8_left 93 = .ok (.i2l, 1) := by decide +kernel
theorem dX8_left_94 : decode cX8_left 94 = .ok (.putfield 202, 3) := by decide +kernel
theorem dX8_left_97 : decode cX8_left 97 = .ok (.iconst 1, 1) := by decide +kernel
theorem dX8_left_98 : decode cX8_left 98 = .ok (.ireturn, 1) := by decide +kernel
theorem dX8_failed_0 : decode cX8_failed 0 = .ok (.aload_n 0, 1) := by decide +kernel
theorem dX8_failed_1 : decode cX8_failed 1 = .ok (.getfield 66, 3) := by decide +kernel
theorem dX8_failed_4 : decode cX8_failed 4 = .ok (.ireturn, 1) := by decide +kernel
set_option maxRecDepth 20000 in
theorem ggX8_about_X8_in : GoodIn wsX8_about wsX8_in := goodIn_r _ [9] (by decide +kernel) (by decide +kernel)
set_option maxRecDepth 20000 in
theorem gX8_about_X8_in : GoodIn wsX8_about (va_wsS RX8 100 yX8_in wsX8_in) := goodIn_app (goodIn_of _ (by decide +kernel)) ggX8_about_X8_in
theorem dX8_about_0 : decode cX8_about 0 = .ok (.iload_n 1, 1) := by decide +kernel
theorem dX8_about_1 : decode cX8_about 1 = .ok (.ifCond .ne 10, 3) := by decide +kernel
theorem dX8_about_4 : decode cX8_about 4 = .ok (.aload_n 0, 1) := by decide +kernel
theorem dX8_about_5 : decode cX8_about 5 = .ok (.getfield 62, 3) := by decide +kernel
theorem dX8_about_8 : decode cX8_about 8 = .ok (.goto 42, 3) := by decide +kernel
theorem dX8_about_11 : decode cX8_about 11 = .ok (.iload_n 1, 1) := by decide +kernel
theorem dX8_about_12 : decode cX8_about 12 = .ok (.iconst 1, 1) := by decide +kernel
theorem dX8_about_13 : decode cX8_about 13 = .ok (.if_icmp .ne 10, 3) := by decide +kernel
theorem dX8_about_16 : decode cX8_about 16 = .ok (.aload_n 0, 1) := by decide +kernel
theorem dX8_about_17 : decode cX8_about 17 = .ok (.getfield 156, 3) := by decide +kernel
theorem dX8_about_20 : decode cX8_about 20 = .ok (.goto 30, 3) := by decide +kernel
theorem dX8_about_23 : decode cX8_about 23 = .ok (.iload_n 1, 1) := by decide +kernel
theorem dX8_about_24 : decode cX8_about 24 = .ok (.i2l, 1) := by decide +kernel
theorem dX8_about_25 : decode cX8_about 25 = .ok (.ldc2_w 161, 3) := by decide +kernel
theorem dX8_about_28 : decode cX8_about 28 = .ok (.ldc2_w 217, 3) := by decide +kernel
theorem dX8_about_31 : decode cX8_about 31 = .ok (.invokestatic 100, 3) := by decide +kernel
theorem dX8_about_34 : decode cX8_about 34 = .ok (.ifCond .eq 14, 3) := by decide +kernel
theorem dX8_about_37 : decode cX8_about 37 = .ok (.aload_n 0, 1) := by decide +kernel
theorem dX8_about_38 : decode cX8_about 38 = .ok (.getfield 59, 3) := by decide +kernel
theorem dX8_about_41 : decode cX8_about 41 = .ok (.iload_n 1, 1) := by decide +kernel
theorem dX8_about_42 : decode cX8_about 42 = .ok (.iconst 2, 1) := by decide +kernel
theorem dX8_about_43 : decode cX8_about 43 = .ok (.isub, 1) := by decide +kernel
theorem dX8_about_44 : decode cX8_about 44 = .ok (.iaload, 1) := by decide +kernel
theorem dX8_about_45 : decode cX8_about 45 = .ok (.goto 5, 3) := by decide +kernel
theorem dX8_about_48 : decode cX8_about 48 = .ok (.bipush (-102), 2) := by decide +kernel
theorem dX8_about_50 : decode cX8_about 50 = .ok (.ireturn, 1) := by decide +kernel
end
section
set_option maxRecDepth 20000 in
theorem ggL_law_X7_init : GoodIn wsL_law wsX7_init := goodIn_r _ [9, 10, 11, 12, 13, 14, 15, 16, 17, 18, 19, 20, 21, 22, 23, 24, 25, 26, 27, 28, 29, 30, 31, 32, 33, 34, 652, 653, 654, 655, 656, 657, 658, 659, 660, 661, 682, 683] (by decide +kernel) (by decide +kernel)
set_option maxRecDepth 20000 in
theorem gL_law_X7_init : GoodIn wsL_law (wsX7_init) := ggL_law_X7_init
set_option maxRecDepth 20000 in
theorem ggL_law_X8_init : GoodIn wsL_law wsX8_init := goodIn_r _ [37, 38, 11, 12, 39, 40, 41, 42, 43, 44, 45, 46, 32, 47, 25, 48, 49, 50, 51, 52, 53, 54, 55, 56, 57, 58, 662, 663, 664, 665, 666, 667, 668, 669, 670, 671, 672, 673, 674, 675, 676, 677, 678, 679, 680, 681] (by decide +kernel) (by decide +kernel)
set_option maxRecDepth 20000 in
theorem gL_law_X8_init : GoodIn wsL_law (wsX8_init) := ggL_law_X8_init
set_option maxRecDepth 20000 in
theorem ggL_law_X7_dial : GoodIn wsL_law wsX7_dial := goodIn_r _ [62, 15, 14, 13, 63, 64, 65, 66, 67, 68, 69, 70, 71, 72, 73, 74, 75, 76, 77, 78, 79, 80, 81, 82, 83, 84, 85, 86, 87, 88, 11, 12, 89, 90, 91, 92, 652, 653, 654, 655, 656, 657, 658, 659, 660, 661, 684, 685, 686, 687] (by decide +kernel) (by decide +kernel)
set_option maxRecDepth 20000 in
theorem gL_law_X7_dial : GoodIn wsL_law (wsV RL 15 RX7 yX7_dial wsX7_dial) := goodIn_app (goodIn_of _ (by decide +kernel)) ggL_law_X7_dial
set_option maxRecDepth 20000 in
theorem ggL_law_X8_dial : GoodIn wsL_law wsX8_dial := goodIn_r _ [96, 58, 40, 42, 45, 43, 46, 47, 97, 98, 5, 99, 100, 101, 102, 103, 104, 105, 106, 107, 108, 109, 110, 111, 112, 113, 114, 115, 116, 117, 118, 119, 120, 121, 662, 663, 664, 665, 666, 667, 668, 669, 670, 671, 672, 673, 674, 675, 676, 677, 678, 679, 680, 681] (by decide +kernel) (by decide +kernel)
set_option maxRecDepth 20000 in
theorem gL_law_X8_dial : GoodIn wsL_law (wsV RL 19 RX8 yX8_dial wsX8_dial) := goodIn_app (goodIn_of _ (by decide +kernel)) ggL_law_X8_dial
set_option maxRecDepth 20000 in
theorem ggL_law_X7_turn : GoodIn wsL_law wsX7_turn := goodIn_r _ [125, 126, 127, 128, 129, 2, 130, 15, 14, 65, 66, 67, 68, 69, 70, 71, 72, 73, 74, 75, 76, 77, 78, 79, 80, 81, 131, 132, 133, 64, 134, 91, 89, 90, 92, 135, 136, 137, 138, 139, 140, 141, 142, 143, 144, 145, 146, 147, 148, 149, 150, 151, 152, 153, 154, 155, 156, 157, 158, 159, 160, 161, 162, 163, 164, 165, 166, 167, 168, 169, 170, 171, 172, 173, 174, 175, 176, 177, 178, 179, 180, 181, 182, 183, 184, 185, 186, 187, 188, 189, 190, 191, 192, 193, 194, 195, 196, 197, 198, 199, 24, 200, 201, 202, 203, 26, 684, 685, 686, 687, 652, 653, 654, 655, 656, 657, 658, 659, 660, 661] (by decide +kernel) (by decide +kernel)
set_option maxRecDepth 20000 in
theorem gL_law_X7_turn : GoodIn wsL_law (wsV RL 20 RX7 yX7_turn wsX7_turn) := goodIn_app (goodIn_of _ (by decide +kernel)) ggL_law_X7_turn
set_option maxRecDepth 20000 in
theorem ggL_law_X8_turn : GoodIn wsL_law wsX8_turn := goodIn_r _ [207, 40, 208, 209, 210, 5, 211, 58, 212, 213, 214, 97, 98, 99, 100, 101, 102, 103, 104, 105, 106, 107, 215, 216, 217, 218, 108, 109, 110, 111, 112, 113, 114, 219, 220, 221, 222, 46, 47, 45, 223, 224, 225, 226, 227, 115, 116, 117, 118, 119, 120, 121, 228, 229, 230, 231, 43, 42, 232, 233, 234, 235, 236, 237, 238, 239, 240, 241, 242, 243, 244, 245, 57, 662, 663, 664, 665, 666, 667, 668, 669, 670, 671, 672, 673, 674, 675, 676, 677, 678, 679, 680, 681] (by decide +kernel) (by decide +kernel)
set_option maxRecDepth 20000 in
theorem gL_law_X8_turn : GoodIn wsL_law (wsV RL 24 RX8 yX8_turn wsX8_turn) := goodIn_app (goodIn_of _ (by decide +kernel)) ggL_law_X8_turn
set_option maxRecDepth 20000 in
theorem ggL_law_X7_spin : GoodIn wsL_law wsX7_spin := goodIn_r _ [249, 126, 127, 128, 129, 2, 130, 15, 14, 65, 66, 67, 68, 69, 70, 71, 72, 73, 74, 75, 76, 77, 78, 79, 80, 81, 131, 132, 133, 64, 134, 91, 89, 90, 92, 135, 136, 137, 138, 139, 140, 141, 142, 143, 144, 145, 146, 147, 148, 149, 150, 151, 152, 153, 154, 155, 156, 157, 158, 159, 160, 161, 162, 163, 164, 165, 166, 167, 168, 169, 170, 171, 172, 173, 174, 175, 176, 177, 178, 179, 180, 181, 182, 183, 184, 185, 186, 187, 188, 189, 190, 191, 192, 193, 194, 195, 200, 201, 202, 203, 24, 26, 196, 197, 198, 199, 684, 685, 686, 687, 652, 653, 654, 655, 656, 657, 658, 659, 660, 661] (by decide +kernel) (by decide +kernel)
set_option maxRecDepth 20000 in
theorem gL_law_X7_spin : GoodIn wsL_law (wsV RL 25 RX7 yX7_spin wsX7_spin) := goodIn_app (goodIn_of _ (by decide +kernel)) ggL_law_X7_spin
set_option maxRecDepth 20000 in
theorem ggL_law_X8_spin : GoodIn wsL_law wsX8_spin := goodIn_r _ [253, 40, 254, 241, 208, 209, 210, 5, 211, 58, 212, 213, 214, 97, 98, 99, 100, 101, 102, 103, 104, 105, 106, 107, 215, 216, 217, 218, 108, 109, 110, 111, 112, 113, 114, 219, 220, 221, 222, 46, 47, 45, 223, 224, 225, 226, 227, 115, 116, 117, 118, 119, 120, 121, 228, 229, 230, 231, 43, 42, 232, 233, 234, 235, 236, 242, 243, 244, 245, 57, 662, 663, 664, 665, 666, 667, 668, 669, 670, 671, 672, 673, 674, 675, 676, 677, 678, 679, 680, 681] (by decide +kernel) (by decide +kernel)
set_option maxRecDepth 20000 in
theorem gL_law_X8_spin : GoodIn wsL_law (wsV RL 29 RX8 yX8_spin wsX8_spin) := goodIn_app (goodIn_of _ (by decide +kernel)) ggL_law_X8_spin
set_option maxRecDepth 20000 in
theorem ggL_law_X7_place : GoodIn wsL_law wsX7_place := goodIn_r _ [258, 259, 260, 127, 128, 129, 2, 130, 15, 14, 684, 685, 686, 687, 652, 653, 654, 655, 656, 657, 658, 659, 660, 661] (by decide +kernel) (by decide +kernel)
set_option maxRecDepth 20000 in
theorem gL_law_X7_place : GoodIn wsL_law (wsV RL 30 RX7 yX7_place wsX7_place) := goodIn_app (goodIn_of _ (by decide +kernel)) ggL_law_X7_place
set_option maxRecDepth 20000 in
theorem ggL_law_X8_place : GoodIn wsL_law wsX8_place := goodIn_r _ [264, 40, 46, 45, 43, 42, 208, 209, 210, 5, 211, 58, 212, 213, 214, 265, 266, 267, 268, 269, 270, 271, 114, 272, 273, 274, 275, 276, 277, 278, 279, 280, 281, 282, 121, 283, 284, 285, 286, 662, 663, 664, 665, 666, 667, 668, 669, 670, 671, 672, 673, 674, 675, 676, 677, 678, 679, 680, 681] (by decide +kernel) (by decide +kernel)
set_option maxRecDepth 20000 in
theorem gL_law_X8_place : GoodIn wsL_law (wsV RL 34 RX8 yX8_place wsX8_place) := goodIn_app (goodIn_of _ (by decide +kernel)) ggL_law_X8_place
set_option maxRecDepth 20000 in
theorem ggL_law_X7_laps : GoodIn wsL_law wsX7_laps := goodIn_r _ [290, 291, 127, 128, 129, 2, 130, 15, 14, 684, 685, 686, 687, 652, 653, 654, 655, 656, 657, 658, 659, 660, 661] (by decide +kernel) (by decide +kernel)
set_option maxRecDepth 20000 in
theorem gL_law_X7_laps : GoodIn wsL_law (wsV RL 35 RX7 yX7_laps wsX7_laps) := goodIn_app (goodIn_of _ (by decide +kernel)) ggL_law_X7_laps
set_option maxRecDepth 20000 in
theorem ggL_law_X8_laps : GoodIn wsL_law wsX8_laps := goodIn_r _ [295, 47, 208, 209, 210, 5, 211, 58, 212, 213, 214, 662, 663, 664, 665, 666, 667, 668, 669, 670, 671, 672, 673, 674, 675, 676, 677, 678, 679, 680, 681] (by decide +kernel) (by decide +kernel)
set_option maxRecDepth 20000 in
theorem gL_law_X8_laps : GoodIn wsL_law (wsV RL 39 RX8 yX8_laps wsX8_laps) := goodIn_app (goodIn_of _ (by decide +kernel)) ggL_law_X8_laps
set_option maxRecDepth 20000 in
theorem ggL_law_X7_fine : GoodIn wsL_law wsX7_fine := goodIn_r _ [299, 126, 127, 128, 129, 2, 130, 15, 14, 684, 685, 686, 687, 652, 653, 654, 655, 656, 657, 658, 659, 660, 661] (by decide +kernel) (by decide +kernel)
set_option maxRecDepth 20000 in
theorem gL_law_X7_fine : GoodIn wsL_law (wsV RL 40 RX7 yX7_fine wsX7_fine) := goodIn_app (goodIn_of _ (by decide +kernel)) ggL_law_X7_fine
set_option maxRecDepth 20000 in
theorem ggL_law_X8_fine : GoodIn wsL_law wsX8_fine := goodIn_r _ [303, 40, 208, 209, 210, 5, 211, 58, 212, 213, 214, 662, 663, 664, 665, 666, 667, 668, 669, 670, 671, 672, 673, 674, 675, 676, 677, 678, 679, 680, 681] (by decide +kernel) (by decide +kernel)
set_option maxRecDepth 20000 in
theorem gL_law_X8_fine : GoodIn wsL_law (wsV RL 44 RX8 yX8_fine wsX8_fine) := goodIn_app (goodIn_of _ (by decide +kernel)) ggL_law_X8_fine
set_option maxRecDepth 20000 in
theorem ggL_law_X7_drive : GoodIn wsL_law wsX7_drive := goodIn_r _ [307, 18, 17, 69, 70, 67, 71, 72, 73, 74, 75, 76, 77, 78, 79, 80, 81, 308, 309, 2, 310, 311, 312, 313, 314, 315, 316, 317, 318, 319, 320, 321, 322, 323, 324, 325, 326, 327, 11, 12, 328, 329, 330, 331, 332, 333, 334, 335, 336, 337, 338, 339, 652, 653, 654, 655, 656, 657, 658, 659, 660, 661, 688, 689, 690, 691, 692, 693, 694, 695, 696, 697, 698] (by decide +kernel) (by decide +kernel)
set_option maxRecDepth 20000 in
theorem gL_law_X7_drive : GoodIn wsL_law (wsV RL 45 RX7 yX7_drive wsX7_drive) := goodIn_app (goodIn_of _ (by decide +kernel)) ggL_law_X7_drive
set_option maxRecDepth 20000 in
theorem ggL_law_X8_drive : GoodIn wsL_law wsX8_drive := goodIn_r _ [343, 344, 345, 48, 49, 50, 51, 212, 213, 5, 214, 100, 101, 102, 103, 108, 109, 110, 111, 112, 113, 114, 662, 663, 664, 665, 666, 667, 668, 669, 670, 671, 672, 673, 674, 675, 676, 677, 678, 679, 680, 681] (by decide +kernel) (by decide +kernel)
set_option maxRecDepth 20000 in
theorem gL_law_X8_drive : GoodIn wsL_law (wsV RL 48 RX8 yX8_drive wsX8_drive) := goodIn_app (goodIn_of _ (by decide +kernel)) ggL_law_X8_drive
set_option maxRecDepth 20000 in
theorem ggL_law_X7_fit : GoodIn wsL_law wsX7_fit := goodIn_r _ [349, 19, 350, 351, 352, 2, 353, 18, 17, 354, 355, 356, 652, 653, 654, 655, 656, 657, 658, 659, 660, 661] (by decide +kernel) (by decide +kernel)
set_option maxRecDepth 20000 in
theorem gL_law_X7_fit : GoodIn wsL_law (wsV RL 49 RX7 yX7_fit wsX7_fit) := goodIn_app (goodIn_of _ (by decide +kernel)) ggL_law_X7_fit
set_option maxRecDepth 20000 in
theorem ggL_law_X8_fit : GoodIn wsL_law wsX8_fit := goodIn_r _ [360, 52, 361, 362, 5, 363, 364, 212, 213, 214, 365, 366, 367, 368, 345, 662, 663, 664, 665, 666, 667, 668, 669, 670, 671, 672, 673, 674, 675, 676, 677, 678, 679, 680, 681] (by decide +kernel) (by decide +kernel)
set_option maxRecDepth 20000 in
theorem gL_law_X8_fit : GoodIn wsL_law (wsV RL 53 RX8 yX8_fit wsX8_fit) := goodIn_app (goodIn_of _ (by decide +kernel)) ggL_law_X8_fit
set_option maxRecDepth 20000 in
theorem ggL_law_X7_pull : GoodIn wsL_law wsX7_pull := goodIn_r _ [372, 19, 127, 128, 129, 2, 130, 15, 14, 354, 355, 356, 200, 201, 202, 203, 24, 26, 373, 374, 375, 376, 325, 377, 378, 379, 328, 380, 381, 67, 382, 383, 70, 71, 72, 73, 74, 75, 76, 77, 78, 79, 80, 81, 163, 164, 165, 166, 167, 138, 139, 140, 141, 142, 143, 144, 145, 146, 147, 148, 149, 150, 151, 152, 153, 160, 161, 162, 168, 169, 170, 171, 172, 173, 174, 175, 176, 177, 178, 179, 180, 181, 182, 384, 385, 386, 387, 316, 388, 389, 390, 334, 391, 392, 393, 394, 395, 396, 397, 398, 319, 399, 400, 401, 402, 403, 404, 405, 406, 407, 408, 136, 137, 154, 155, 156, 157, 158, 159, 409, 410, 313, 411, 412, 413, 414, 415, 416, 417, 418, 419, 132, 133, 64, 134, 91, 89, 90, 92, 135, 183, 184, 185, 186, 187, 188, 189, 190, 191, 192, 193, 194, 195, 420, 421, 196, 197, 198, 199, 652, 653, 654, 655, 656, 657, 658, 659, 660, 661, 684, 685, 686, 687, 691, 692, 693, 694, 695, 696, 697, 698, 688, 689, 690] (by decide +kernel) (by decide +kernel)
set_option maxRecDepth 20000 in
theorem gL_law_X7_pull : GoodIn wsL_law (wsV RL 54 RX7 yX7_pull wsX7_pull) := goodIn_app (goodIn_of _ (by decide +kernel)) ggL_law_X7_pull
set_option maxRecDepth 20000 in
theorem ggL_law_X8_pull : GoodIn wsL_law wsX8_pull := goodIn_r _ [425, 52, 361, 362, 5, 363, 364, 212, 213, 214, 208, 209, 210, 211, 58, 426, 427, 428, 429, 430, 431, 432, 433, 49, 48, 40, 46, 43, 50, 51, 223, 224, 225, 226, 227, 219, 220, 221, 222, 47, 45, 232, 233, 234, 235, 236, 228, 229, 230, 231, 42, 237, 238, 239, 240, 241, 242, 243, 244, 245, 57, 662, 663, 664, 665, 666, 667, 668, 669, 670, 671, 672, 673, 674, 675, 676, 677, 678, 679, 680, 681] (by decide +kernel) (by decide +kernel)
set_option maxRecDepth 20000 in
theorem gL_law_X8_pull : GoodIn wsL_law (wsV RL 57 RX8 yX8_pull wsX8_pull) := goodIn_app (goodIn_of _ (by decide +kernel)) ggL_law_X8_pull
set_option maxRecDepth 20000 in
theorem ggL_law_X7_gear : GoodIn wsL_law wsX7_gear := goodIn_r _ [437, 19, 438, 439, 354, 355, 2, 356, 200, 201, 202, 203, 24, 26, 196, 197, 198, 199, 652, 653, 654, 655, 656, 657, 658, 659, 660, 661, 691, 692, 693, 694, 695, 696, 697, 698] (by decide +kernel) (by decide +kernel)
set_option maxRecDepth 20000 in
theorem gL_law_X7_gear : GoodIn wsL_law (wsV RL 58 RX7 yX7_gear wsX7_gear) := goodIn_app (goodIn_of _ (by decide +kernel)) ggL_law_X7_gear
set_option maxRecDepth 20000 in
theorem ggL_law_X8_gear : GoodIn wsL_law wsX8_gear := goodIn_r _ [443, 444, 445, 52, 48, 50, 361, 362, 5, 363, 364, 212, 213, 214, 242, 243, 244, 245, 241, 57, 237, 238, 239, 240, 662, 663, 664, 665, 666, 667, 668, 669, 670, 671, 672, 673, 674, 675, 676, 677, 678, 679, 680, 681] (by decide +kernel) (by decide +kernel)
set_option maxRecDepth 20000 in
theorem gL_law_X8_gear : GoodIn wsL_law (wsV RL 61 RX8 yX8_gear wsX8_gear) := goodIn_app (goodIn_of _ (by decide +kernel)) ggL_law_X8_gear
set_option maxRecDepth 20000 in
theorem ggL_law_X7_lay : GoodIn wsL_law wsX7_lay := goodIn_r _ [449, 19, 438, 20, 450, 451, 2, 452, 354, 355, 356, 453, 454, 455, 200, 201, 202, 203, 24, 26, 196, 197, 198, 199, 652, 653, 654, 655, 656, 657, 658, 659, 660, 661] (by decide +kernel) (by decide +kernel)
set_option maxRecDepth 20000 in
theorem gL_law_X7_lay : GoodIn wsL_law (wsV RL 62 RX7 yX7_lay wsX7_lay) := goodIn_app (goodIn_of _ (by decide +kernel)) ggL_law_X7_lay
set_option maxRecDepth 20000 in
theorem ggL_law_X8_lay : GoodIn wsL_law wsX8_lay := goodIn_r _ [459, 460, 52, 48, 53, 461, 462, 5, 463, 212, 213, 214, 361, 362, 363, 364, 242, 243, 244, 245, 241, 57, 237, 238, 239, 240, 662, 663, 664, 665, 666, 667, 668, 669, 670, 671, 672, 673, 674, 675, 676, 677, 678, 679, 680, 681] (by decide +kernel) (by decide +kernel)
set_option maxRecDepth 20000 in
theorem gL_law_X8_lay : GoodIn wsL_law (wsV RL 66 RX8 yX8_lay wsX8_lay) := goodIn_app (goodIn_of _ (by decide +kernel)) ggL_law_X8_lay
set_option maxRecDepth 20000 in
theorem ggL_law_X7_wind : GoodIn wsL_law wsX7_wind := goodIn_r _ [467, 20, 127, 128, 129, 2, 130, 15, 14, 450, 451, 452, 200, 201, 202, 203, 24, 26, 373, 374, 375, 376, 325, 377, 378, 379, 328, 380, 381, 67, 382, 383, 70, 71, 72, 73, 74, 75, 76, 77, 78, 79, 80, 81, 163, 164, 165, 166, 167, 138, 139, 140, 141, 142, 143, 144, 145, 146, 147, 148, 149, 150, 151, 152, 153, 160, 161, 162, 168, 169, 170, 171, 172, 173, 174, 175, 176, 177, 178, 179, 180, 181, 182, 384, 385, 386, 387, 316, 388, 389, 390, 334, 391, 392, 393, 394, 395, 396, 397, 398, 319, 399, 400, 401, 402, 403, 404, 405, 406, 407, 408, 136, 137, 154, 155, 156, 157, 158, 159, 409, 410, 313, 411, 412, 413, 414, 415, 416, 417, 418, 419, 132, 133, 64, 134, 91, 89, 90, 92, 135, 183, 184, 185, 186, 187, 188, 189, 190, 191, 192, 193, 194, 195, 420, 421, 196, 197, 198, 199, 652, 653, 654, 655, 656, 657, 658, 659, 660, 661, 684, 685, 686, 687, 691, 692, 693, 694, 695, 696, 697, 698, 688, 689, 690] (by decide +kernel) (by decide +kernel)
set_option maxRecDepth 20000 in
theorem gL_law_X7_wind : GoodIn wsL_law (wsV RL 67 RX7 yX7_wind wsX7_wind) := goodIn_app (goodIn_of _ (by decide +kernel)) ggL_law_X7_wind
set_option maxRecDepth 20000 in
theorem ggL_law_X8_wind : GoodIn wsL_law wsX8_wind := goodIn_r _ [471, 241, 53, 461, 462, 5, 463, 212, 213, 214, 208, 209, 210, 211, 58, 426, 427, 428, 429, 430, 431, 432, 433, 49, 48, 40, 46, 43, 50, 51, 223, 224, 225, 226, 227, 219, 220, 221, 222, 47, 45, 232, 233, 234, 235, 236, 228, 229, 230, 231, 42, 242, 243, 244, 245, 57, 662, 663, 664, 665, 666, 667, 668, 669, 670, 671, 672, 673, 674, 675, 676, 677, 678, 679, 680, 681] (by decide +kernel) (by decide +kernel)
set_option maxRecDepth 20000 in
theorem gL_law_X8_wind : GoodIn wsL_law (wsV RL 70 RX8 yX8_wind wsX8_wind) := goodIn_app (goodIn_of _ (by decide +kernel)) ggL_law_X8_wind
set_option maxRecDepth 20000 in
theorem ggL_law_X7_laid : GoodIn wsL_law wsX7_laid := goodIn_r _ [475, 20, 476, 450, 451, 2, 452, 453, 454, 455, 200, 201, 202, 203, 24, 26, 196, 197, 198, 199, 652, 653, 654, 655, 656, 657, 658, 659, 660, 661, 691, 692, 693, 694, 695, 696, 697, 698, 688, 689, 690] (by decide +kernel) (by decide +kernel)
set_option maxRecDepth 20000 in
theorem gL_law_X7_laid : GoodIn wsL_law (wsV RL 71 RX7 yX7_laid wsX7_laid) := goodIn_app (goodIn_of _ (by decide +kernel)) ggL_law_X7_laid
set_option maxRecDepth 20000 in
theorem ggL_law_X8_laid : GoodIn wsL_law wsX8_laid := goodIn_r _ [480, 460, 53, 461, 462, 5, 463, 212, 213, 214, 237, 238, 239, 240, 241, 242, 243, 244, 245, 57, 662, 663, 664, 665, 666, 667, 668, 669, 670, 671, 672, 673, 674, 675, 676, 677, 678, 679, 680, 681] (by decide +kernel) (by decide +kernel)
set_option maxRecDepth 20000 in
theorem gL_law_X8_laid : GoodIn wsL_law (wsV RL 74 RX8 yX8_laid wsX8_laid) := goodIn_app (goodIn_of _ (by decide +kernel)) ggL_law_X8_laid
set_option maxRecDepth 20000 in
theorem ggL_law_X7_pulls : GoodIn wsL_law wsX7_pulls := goodIn_r _ [484, 485, 350, 351, 352, 2, 353, 18, 17, 691, 692, 693, 694, 695, 696, 697, 698, 688, 689, 690, 652, 653, 654, 655, 656, 657, 658, 659, 660, 661] (by decide +kernel) (by decide +kernel)
set_option maxRecDepth 20000 in
theorem gL_law_X7_pulls : GoodIn wsL_law (wsV RL 75 RX7 yX7_pulls wsX7_pulls) := goodIn_app (goodIn_of _ (by decide +kernel)) ggL_law_X7_pulls
set_option maxRecDepth 20000 in
theorem ggL_law_X8_pulls : GoodIn wsL_law wsX8_pulls := goodIn_r _ [489, 51, 365, 366, 367, 5, 368, 345, 212, 213, 214, 662, 663, 664, 665, 666, 667, 668, 669, 670, 671, 672, 673, 674, 675, 676, 677, 678, 679, 680, 681] (by decide +kernel) (by decide +kernel)
set_option maxRecDepth 20000 in
theorem gL_law_X8_pulls : GoodIn wsL_law (wsV RL 78 RX8 yX8_pulls wsX8_pulls) := goodIn_app (goodIn_of _ (by decide +kernel)) ggL_law_X8_pulls
set_option maxRecDepth 20000 in
theorem ggL_law_X7_log : GoodIn wsL_law wsX7_log := goodIn_r _ [493, 494, 495, 496, 2, 497, 22, 498, 499, 500, 28, 501, 33, 34, 652, 653, 654, 655, 656, 657, 658, 659, 660, 661, 682, 683] (by decide +kernel) (by decide +kernel)
set_option maxRecDepth 20000 in
theorem gL_law_X7_log : GoodIn wsL_law (wsV RL 79 RX7 yX7_log wsX7_log) := goodIn_app (goodIn_of _ (by decide +kernel)) ggL_law_X7_log
set_option maxRecDepth 20000 in
theorem ggL_law_X8_log : GoodIn wsL_law wsX8_log := goodIn_r _ [505, 506, 507, 54, 55, 56, 508, 509, 5, 510, 511, 212, 213, 214, 512, 513, 514, 662, 663, 664, 665, 666, 667, 668, 669, 670, 671, 672, 673, 674, 675, 676, 677, 678, 679, 680, 681] (by decide +kernel) (by decide +kernel)
set_option maxRecDepth 20000 in
theorem gL_law_X8_log : GoodIn wsL_law (wsV RL 83 RX8 yX8_log wsX8_log) := goodIn_app (goodIn_of _ (by decide +kernel)) ggL_law_X8_log
set_option maxRecDepth 20000 in
theorem ggL_law_X7_write : GoodIn wsL_law wsX7_write := goodIn_r _ [518, 519, 494, 495, 496, 2, 497, 22, 65, 66, 67, 68, 69, 70, 71, 72, 73, 74, 75, 76, 77, 78, 79, 80, 81, 520, 521, 522, 28, 523, 34, 524, 525, 526, 527, 200, 201, 202, 203, 24, 26, 196, 197, 198, 199, 682, 683, 652, 653, 654, 655, 656, 657, 658, 659, 660, 661] (by decide +kernel) (by decide +kernel)
set_option maxRecDepth 20000 in
theorem gL_law_X7_write : GoodIn wsL_law (wsV RL 84 RX7 yX7_write wsX7_write) := goodIn_app (goodIn_of _ (by decide +kernel)) ggL_law_X7_write
set_option maxRecDepth 20000 in
theorem ggL_law_X8_write : GoodIn wsL_law wsX8_write := goodIn_r _ [531, 56, 55, 508, 509, 5, 510, 511, 212, 213, 214, 97, 98, 99, 100, 101, 102, 103, 104, 105, 106, 107, 512, 513, 514, 532, 533, 534, 535, 54, 242, 243, 244, 245, 241, 57, 108, 109, 110, 111, 112, 113, 114, 115, 116, 117, 118, 119, 120, 121, 237, 238, 239, 240, 662, 663, 664, 665, 666, 667, 668, 669, 670, 671, 672, 673, 674, 675, 676, 677, 678, 679, 680, 681] (by decide +kernel) (by decide +kernel)
set_option maxRecDepth 20000 in
theorem gL_law_X8_write : GoodIn wsL_law (wsV RL 88 RX8 yX8_write wsX8_write) := goodIn_app (goodIn_of _ (by decide +kernel)) ggL_law_X8_write
set_option maxRecDepth 20000 in
theorem ggL_law_X7_read : GoodIn wsL_law wsX7_read := goodIn_r _ [539, 519, 23, 494, 495, 496, 2, 497, 22, 520, 521, 522, 28, 523, 34, 524, 525, 526, 527, 200, 201, 202, 203, 24, 26, 196, 197, 198, 199, 682, 683, 652, 653, 654, 655, 656, 657, 658, 659, 660, 661] (by decide +kernel) (by decide +kernel)
set_option maxRecDepth 20000 in
theorem gL_law_X7_read : GoodIn wsL_law (wsV RL 89 RX7 yX7_read wsX7_read) := goodIn_app (goodIn_of _ (by decide +kernel)) ggL_law_X7_read
set_option maxRecDepth 20000 in
theorem ggL_law_X8_read : GoodIn wsL_law wsX8_read := goodIn_r _ [543, 56, 55, 544, 508, 509, 5, 510, 511, 212, 213, 214, 512, 513, 514, 532, 533, 534, 535, 54, 242, 243, 244, 245, 241, 57, 265, 266, 267, 268, 269, 270, 271, 114, 272, 273, 274, 275, 276, 277, 278, 279, 280, 281, 282, 121, 283, 284, 285, 286, 237, 238, 239, 240, 662, 663, 664, 665, 666, 667, 668, 669, 670, 671, 672, 673, 674, 675, 676, 677, 678, 679, 680, 681] (by decide +kernel) (by decide +kernel)
set_option maxRecDepth 20000 in
theorem gL_law_X8_read : GoodIn wsL_law (wsV RL 92 RX8 yX8_read wsX8_read) := goodIn_app (goodIn_of _ (by decide +kernel)) ggL_law_X8_read
set_option maxRecDepth 20000 in
theorem ggL_law_X7_seen : GoodIn wsL_law wsX7_seen := goodIn_r _ [548, 23, 652, 653, 654, 655, 656, 657, 658, 659, 660, 661] (by decide +kernel) (by decide +kernel)
set_option maxRecDepth 20000 in
theorem gL_law_X7_seen : GoodIn wsL_law (wsV RL 93 RX7 yX7_seen wsX7_seen) := goodIn_app (goodIn_of _ (by decide +kernel)) ggL_law_X7_seen
set_option maxRecDepth 20000 in
theorem ggL_law_X8_seen : GoodIn wsL_law wsX8_seen := goodIn_r _ [552, 544, 662, 663, 664, 665, 666, 667, 668, 669, 670, 671, 672, 673, 674, 675, 676, 677, 678, 679, 680, 681] (by decide +kernel) (by decide +kernel)
set_option maxRecDepth 20000 in
theorem gL_law_X8_seen : GoodIn wsL_law (wsV RL 97 RX8 yX8_seen wsX8_seen) := goodIn_app (goodIn_of _ (by decide +kernel)) ggL_law_X8_seen
set_option maxRecDepth 20000 in
theorem ggL_law_X7_note : GoodIn wsL_law wsX7_note := goodIn_r _ [556, 519, 126, 259, 494, 495, 496, 2, 497, 22, 127, 128, 129, 130, 15, 14, 520, 521, 522, 28, 523, 34, 524, 525, 526, 527, 200, 201, 202, 203, 24, 26, 557, 381, 67, 382, 383, 70, 71, 72, 73, 74, 75, 76, 77, 78, 79, 80, 81, 163, 164, 165, 166, 167, 138, 139, 140, 141, 142, 143, 144, 145, 146, 147, 148, 149, 150, 151, 152, 153, 160, 161, 162, 168, 169, 170, 171, 172, 173, 174, 175, 176, 177, 178, 179, 180, 181, 182, 196, 197, 198, 199, 682, 683, 684, 685, 686, 687, 652, 653, 654, 655, 656, 657, 658, 659, 660, 661] (by decide +kernel) (by decide +kernel)
set_option maxRecDepth 20000 in
theorem gL_law_X7_note : GoodIn wsL_law (wsV RL 98 RX7 yX7_note wsX7_note) := goodIn_app (goodIn_of _ (by decide +kernel)) ggL_law_X7_note
set_option maxRecDepth 20000 in
theorem ggL_law_X8_note : GoodIn wsL_law wsX8_note := goodIn_r _ [561, 56, 40, 46, 43, 55, 508, 509, 5, 510, 511, 212, 213, 214, 208, 209, 210, 211, 58, 512, 513, 514, 532, 533, 534, 535, 54, 242, 243, 244, 245, 241, 57, 237, 238, 239, 240, 662, 663, 664, 665, 666, 667, 668, 669, 670, 671, 672, 673, 674, 675, 676, 677, 678, 679, 680, 681] (by decide +kernel) (by decide +kernel)
set_option maxRecDepth 20000 in
theorem gL_law_X8_note : GoodIn wsL_law (wsV RL 102 RX8 yX8_note wsX8_note) := goodIn_app (goodIn_of _ (by decide +kernel)) ggL_law_X8_note
set_option maxRecDepth 20000 in
theorem ggL_law_X7_recall : GoodIn wsL_law wsX7_recall := goodIn_r _ [565, 126, 519, 260, 259, 494, 495, 496, 2, 497, 22, 127, 128, 129, 130, 15, 14, 520, 521, 522, 28, 523, 34, 524, 525, 526, 527, 200, 201, 202, 203, 24, 26, 557, 381, 67, 382, 383, 70, 71, 72, 73, 74, 75, 76, 77, 78, 79, 80, 81, 163, 164, 165, 166, 167, 138, 139, 140, 141, 142, 143, 144, 145, 146, 147, 148, 149, 150, 151, 152, 153, 160, 161, 162, 168, 169, 170, 171, 172, 173, 174, 175, 176, 177, 178, 179, 180, 181, 182, 69, 566, 191, 192, 193, 194, 195, 196, 197, 198, 199, 684, 685, 686, 687, 682, 683, 652, 653, 654, 655, 656, 657, 658, 659, 660, 661] (by decide +kernel) (by decide +kernel)
set_option maxRecDepth 20000 in
theorem gL_law_X7_recall : GoodIn wsL_law (wsV RL 103 RX7 yX7_recall wsX7_recall) := goodIn_app (goodIn_of _ (by decide +kernel)) ggL_law_X7_recall
set_option maxRecDepth 20000 in
theorem ggL_law_X8_recall : GoodIn wsL_law wsX8_recall := goodIn_r _ [570, 56, 55, 40, 46, 45, 43, 42, 508, 509, 5, 510, 511, 212, 213, 214, 208, 209, 210, 211, 58, 512, 513, 514, 532, 533, 534, 535, 54, 242, 243, 244, 245, 241, 57, 223, 224, 225, 226, 227, 232, 233, 234, 235, 236, 237, 238, 239, 240, 662, 663, 664, 665, 666, 667, 668, 669, 670, 671, 672, 673, 674, 675, 676, 677, 678, 679, 680, 681] (by decide +kernel) (by decide +kernel)
set_option maxRecDepth 20000 in
theorem gL_law_X8_recall : GoodIn wsL_law (wsV RL 106 RX8 yX8_recall wsX8_recall) := goodIn_app (goodIn_of _ (by decide +kernel)) ggL_law_X8_recall
set_option maxRecDepth 20000 in
theorem ggL_law_X7_sift : GoodIn wsL_law wsX7_sift := goodIn_r _ [574, 575, 519, 23, 494, 495, 496, 2, 497, 22, 65, 66, 67, 68, 69, 70, 71, 72, 73, 74, 75, 76, 77, 78, 79, 80, 81, 576, 525, 526, 28, 527, 34, 200, 201, 202, 203, 24, 26, 82, 83, 84, 566, 191, 192, 147, 148, 149, 150, 193, 194, 195, 138, 139, 140, 141, 142, 143, 171, 172, 173, 174, 175, 176, 177, 178, 179, 144, 145, 146, 151, 152, 153, 160, 161, 162, 163, 164, 165, 166, 167, 168, 169, 170, 180, 181, 182, 196, 197, 198, 199, 682, 683, 652, 653, 654, 655, 656, 657, 658, 659, 660, 661] (by decide +kernel) (by decide +kernel)
set_option maxRecDepth 20000 in
theorem gL_law_X7_sift : GoodIn wsL_law (wsV RL 107 RX7 yX7_sift wsX7_sift) := goodIn_app (goodIn_of _ (by decide +kernel)) ggL_law_X7_sift
set_option maxRecDepth 20000 in
theorem ggL_law_X8_sift : GoodIn wsL_law wsX8_sift := goodIn_r _ [580, 54, 56, 55, 544, 508, 509, 5, 510, 511, 212, 213, 214, 97, 98, 99, 100, 101, 102, 103, 104, 105, 106, 107, 512, 513, 514, 242, 243, 244, 245, 241, 57, 115, 116, 117, 118, 119, 120, 121, 108, 109, 110, 111, 112, 113, 114, 265, 266, 267, 268, 269, 270, 271, 272, 273, 274, 275, 276, 277, 278, 279, 280, 281, 282, 283, 284, 285, 286, 237, 238, 239, 240, 662, 663, 664, 665, 666, 667, 668, 669, 670, 671, 672, 673, 674, 675, 676, 677, 678, 679, 680, 681] (by decide +kernel) (by decide +kernel)
set_option maxRecDepth 20000 in
theorem gL_law_X8_sift : GoodIn wsL_law (wsV RL 111 RX8 yX8_sift wsX8_sift) := goodIn_app (goodIn_of _ (by decide +kernel)) ggL_law_X8_sift
set_option maxRecDepth 20000 in
theorem ggL_law_X7_cast : GoodIn wsL_law wsX7_cast := goodIn_r _ [584, 23, 585, 586, 2, 587, 588, 589, 590, 591, 592, 67, 593, 72, 73, 74, 75, 76, 77, 78, 79, 80, 81, 594, 595, 596, 597, 598, 599, 600, 149, 601, 602, 603, 604, 557, 381, 382, 383, 70, 71, 163, 164, 165, 166, 167, 138, 139, 140, 141, 142, 143, 144, 145, 146, 147, 148, 150, 151, 152, 153, 160, 161, 162, 168, 169, 170, 171, 172, 173, 174, 175, 176, 177, 178, 179, 180, 181, 182, 605, 188, 189, 606, 607, 608, 609, 610, 611, 394, 395, 396, 652, 653, 654, 655, 656, 657, 658, 659, 660, 661] (by decide +kernel) (by decide +kernel)
set_option maxRecDepth 20000 in
theorem gL_law_X7_cast : GoodIn wsL_law (wsV RL 112 RX7 yX7_cast wsX7_cast) := goodIn_app (goodIn_of _ (by decide +kernel)) ggL_law_X7_cast
set_option maxRecDepth 20000 in
theorem ggL_law_X8_cast : GoodIn wsL_law wsX8_cast := goodIn_r _ [615, 460, 544, 212, 213, 5, 214, 616, 617, 618, 619, 107, 620, 103, 621, 622, 623, 276, 277, 278, 279, 280, 281, 282, 121, 283, 284, 285, 286, 265, 266, 267, 268, 269, 270, 271, 114, 272, 273, 274, 275, 115, 116, 117, 118, 119, 120, 108, 109, 110, 111, 112, 113, 624, 625, 626, 662, 663, 664, 665, 666, 667, 668, 669, 670, 671, 672, 673, 674, 675, 676, 677, 678, 679, 680, 681] (by decide +kernel) (by decide +kernel)
set_option maxRecDepth 20000 in
theorem gL_law_X8_cast : GoodIn wsL_law (wsV RL 116 RX8 yX8_cast wsX8_cast) := goodIn_app (goodIn_of _ (by decide +kernel)) ggL_law_X8_cast
set_option maxRecDepth 20000 in
theorem ggL_law_X7_left : GoodIn wsL_law wsX7_left := goodIn_r _ [630, 23, 65, 66, 67, 68, 69, 70, 71, 72, 73, 74, 75, 76, 77, 78, 79, 80, 81, 82, 83, 84, 591, 592, 593, 566, 191, 192, 147, 148, 149, 150, 193, 194, 195, 138, 139, 140, 141, 142, 143, 171, 172, 173, 174, 175, 176, 177, 178, 179, 144, 145, 146, 151, 152, 153, 160, 161, 162, 163, 164, 165, 166, 167, 168, 169, 170, 180, 181, 182, 652, 653, 654, 655, 656, 657, 658, 659, 660, 661] (by decide +kernel) (by decide +kernel)
set_option maxRecDepth 20000 in
theorem gL_law_X7_left : GoodIn wsL_law (wsV RL 117 RX7 yX7_left wsX7_left) := goodIn_app (goodIn_of _ (by decide +kernel)) ggL_law_X7_left
set_option maxRecDepth 20000 in
theorem ggL_law_X8_left : GoodIn wsL_law wsX8_left := goodIn_r _ [634, 544, 616, 617, 5, 618, 619, 107, 620, 103, 97, 98, 99, 100, 101, 102, 104, 105, 106, 108, 109, 110, 111, 112, 113, 114, 115, 116, 117, 118, 119, 120, 121, 265, 266, 267, 268, 269, 270, 271, 272, 273, 274, 275, 276, 277, 278, 279, 280, 281, 282, 283, 284, 285, 286, 662, 663, 664, 665, 666, 667, 668, 669, 670, 671, 672, 673, 674, 675, 676, 677, 678, 679, 680, 681] (by decide +kernel) (by decide +kernel)
set_option maxRecDepth 20000 in
theorem gL_law_X8_left : GoodIn wsL_law (wsV RL 121 RX8 yX8_left wsX8_left) := goodIn_app (goodIn_of _ (by decide +kernel)) ggL_law_X8_left
set_option maxRecDepth 20000 in
theorem ggL_law_X7_failed : GoodIn wsL_law wsX7_failed := goodIn_r _ [638, 24, 652, 653, 654, 655, 656, 657, 658, 659, 660, 661] (by decide +kernel) (by decide +kernel)
set_option maxRecDepth 20000 in
theorem gL_law_X7_failed : GoodIn wsL_law (wsV RL 122 RX7 yX7_failed wsX7_failed) := goodIn_app (goodIn_of _ (by decide +kernel)) ggL_law_X7_failed
set_option maxRecDepth 20000 in
theorem ggL_law_X8_failed : GoodIn wsL_law wsX8_failed := goodIn_r _ [642, 241, 662, 663, 664, 665, 666, 667, 668, 669, 670, 671, 672, 673, 674, 675, 676, 677, 678, 679, 680, 681] (by decide +kernel) (by decide +kernel)
set_option maxRecDepth 20000 in
theorem gL_law_X8_failed : GoodIn wsL_law (wsV RL 126 RX8 yX8_failed wsX8_failed) := goodIn_app (goodIn_of _ (by decide +kernel)) ggL_law_X8_failed
set_option maxRecDepth 20000 in
theorem ggL_law_X7_about : GoodIn wsL_law wsX7_about := goodIn_r _ [646, 15, 18, 26, 652, 653, 654, 655, 656, 657, 658, 659, 660, 661] (by decide +kernel) (by decide +kernel)
set_option maxRecDepth 20000 in
theorem gL_law_X7_about : GoodIn wsL_law (wsV RL 127 RX7 yX7_about wsX7_about) := goodIn_app (goodIn_of _ (by decide +kernel)) ggL_law_X7_about
set_option maxRecDepth 20000 in
theorem ggL_law_X8_about : GoodIn wsL_law wsX8_about := goodIn_r _ [650, 58, 345, 344, 651, 57, 212, 213, 5, 214, 662, 663, 664, 665, 666, 667, 668, 669, 670, 671, 672, 673, 674, 675, 676, 677, 678, 679, 680, 681] (by decide +kernel) (by decide +kernel)
set_option maxRecDepth 20000 in
theorem gL_law_X8_about : GoodIn wsL_law (wsV RL 130 RX8 yX8_about wsX8_about) := goodIn_app (goodIn_of _ (by decide +kernel)) ggL_law_X8_about
theorem dL_law_0 : decode cL_law 0 = .ok (.new 7, 3) := by decide +kernel
theorem dL_law_3 : decode cL_law 3 = .ok (.dup, 1) := by decide +kernel
theorem dL_law_4 : decode cL_law 4 = .ok (.invokespecial 9, 3) := by decide +kernel
theorem dL_law_7 : decode cL_law 7 = .ok (.astore_n 1, 1) := by decide +kernel
theorem dL_law_8 : decode cL_law 8 = .ok (.new 10, 3) := by decide +kernel
theorem dL_law_11 : decode cL_law 11 = .ok (.dup, 1) := by decide +kernel
theorem dL_law_12 : decode cL_law 12 = .ok (.invokespecial 12, 3) := by decide +kernel
theorem dL_law_15 : decode cL_law 15 = .ok (.astore_n 2, 1) := by decide +kernel
theorem dL_law_16 : decode cL_law 16 = .ok (.iconst 0, 1) := by decide +kernel
theorem dL_law_17 : decode cL_law 17 = .ok (.istore_n 3, 1) := by decide +kernel
theorem dL_law_18 : decode cL_law 18 = .ok (.iload_n 3, 1) := by decide +kernel
theorem dL_law_19 : decode cL_law 19 = .ok (.aload_n 0, 1) := by decide +kernel
theorem dL_law_20 : decode cL_law 20 = .ok (.arraylength, 1) := by decide +kernel
theorem dL_law_21 : decode cL_law 21 = .ok (.bipush 6, 2) := by decide +kernel
theorem dL_law_23 : decode cL_law 23 = .ok (.isub, 1) := by decide +kernel
theorem dL_law_24 : decode cL_law 24 = .ok (.if_icmp .gt 1406, 3) := by decide +kernel
theorem dL_law_27 : decode cL_law 27 = .ok (.aload_n 0, 1) := by decide +kernel
theorem dL_law_28 : decode cL_law 28 = .ok (.iload_n 3, 1) := by decide +kernel
theorem dL_law_29 : decode cL_law 29 = .ok (.iaload, 1) := by decide +kernel
theorem dL_law_30 : decode cL_law 30 = .ok (.bipush 31, 2) := by decide +kernel
theorem dL_law_32 : decode cL_law 32 = .ok (.iand, 1) := by decide +kernel
theorem dL_law_33 : decode cL_law 33 = .ok (.tableswitch 1391 0 24 #[115, 194, 257, 330, 364, 388, 411, 474, 507, 540, 573, 616, 649, 682, 705, 764, 863, 922, 936, 1005, 1074, 1163, 1236, 1355, 1368], 115) := by decide +kernel
theorem dL_law_148 : decode cL_law 148 = .ok (.aload_n 1, 1) := by decide +kernel
theorem dL_law_149 : decode cL_law 149 = .ok (.aload_n 0, 1) := by decide +kernel
theorem dL_law_150 : decode cL_law 150 = .ok (.iload_n 3, 1) := by decide +kernel
theorem dL_law_151 : decode cL_law 151 = .ok (.iconst 1, 1) := by decide +kernel
theorem dL_law_152 : decode cL_law 152 = .ok (.iadd, 1) := by decide +kernel
theorem dL_law_153 : decode cL_law 153 = .ok (.iaload, 1) := by decide +kernel
theorem dL_law_154 : decode cL_law 154 = .ok (.ifCond .eq 7, 3) := by decide +kernel
theorem dL_law_157 : decode cL_law 157 = .ok (.iconst 1, 1) := by decide +kernel
theorem dL_law_158 : decode cL_law 158 = .ok (.goto 4, 3) := by decide +kernel
theorem dL_law_161 : decode cL_law 161 = .ok (.iconst 0, 1) := by decide +kernel
theorem dL_law_162 : decode cL_law 162 = .ok (.aload_n 0, 1) := by decide +kernel
theorem dL_law_163 : decode cL_law 163 = .ok (.iload_n 3, 1) := by decide +kernel
theorem dL_law_164 : decode cL_law 164 = .ok (.iconst 2, 1) := by decide +kernel
theorem dL_law_165 : decode cL_law 165 = .ok (.iadd, 1) := by decide +kernel
theorem dL_law_166 : decode cL_law 166 = .ok (.iaload, 1) := by decide +kernel
theorem dL_law_167 : decode cL_law 167 = .ok (.i2l, 1) := by decide +kernel
theorem dL_law_168 : decode cL_law 168 = .ok (.bipush 32, 2) := by decide +kernel
theorem dL_law_170 : decode cL_law 170 = .ok (.lshl, 1) := by decide +kernel
theorem dL_law_171 : decode cL_law 171 = .ok (.aload_n 0, 1) := by decide +kernel
theorem dL_law_172 : decode cL_law 172 = .ok (.iload_n 3, 1) := by decide +kernel
theorem dL_law_173 : decode cL_law 173 = .ok (.iconst 3, 1) := by decide +kernel
theorem dL_law_174 : decode cL_law 174 = .ok (.iadd, 1) := by decide +kernel
theorem dL_law_175 : decode cL_law 175 = .ok (.iaload, 1) := by decide +kernel
theorem dL_law_176 : decode cL_law 176 = .ok (.i2l, 1) := by decide +kernel
theorem dL_law_177 : decode cL_law 177 = .ok (.ldc2_w 13, 3) := by decide +kernel
theorem dL_law_180 : decode cL_law 180 = .ok (.land, 1) := by decide +kernel
theorem dL_law_181 : decode cL_law 181 = .ok (.lor, 1) := by decide +kernel
theorem dL_law_182 : decode cL_law 182 = .ok (.invokevirtual 15, 3) := by decide +kernel
theorem dL_law_185 : decode cL_law 185 = .ok (.aload_n 2, 1) := by decide +kernel
theorem dL_law_186 : decode cL_law 186 = .ok (.aload_n 0, 1) := by decide +kernel
theorem dL_law_187 : decode cL_law 187 = .ok (.iload_n 3, 1) := by decide +kernel
theorem dL_law_188 : decode cL_law 188 = .ok (.iconst 1, 1) := by decide +kernel
theorem dL_law_189 : decode cL_law 189 = .ok (.iadd, 1) := by decide +kernel
theorem dL_law_190 : decode cL_law 190 = .ok (.iaload, 1) := by decide +kernel
theorem dL_law_191 : decode cL_law 191 = .ok (.ifCond .eq 7, 3) := by decide +kernel
theorem dL_law_194 : decode cL_law 194 = .ok (.iconst 1, 1) := by decide +kernel
theorem dL_law_195 : decode cL_law 195 = .ok (.goto 4, 3) := by decide +kernel
theorem dL_law_198 : decode cL_law 198 = .ok (.iconst 0, 1) := by decide +kernel
theorem dL_law_199 : decode cL_law 199 = .ok (.aload_n 0, 1) := by decide +kernel
theorem dL_law_200 : decode cL_law 200 = .ok (.iload_n 3, 1) := by decide +kernel
theorem dL_law_201 : decode cL_law 201 = .ok (.iconst 2, 1) := by decide +kernel
theorem dL_law_202 : decode cL_law 202 = .ok (.iadd, 1) := by decide +kernel
theorem dL_law_203 : decode cL_law 203 = .ok (.iaload, 1) := by decide +kernel
theorem dL_law_204 : decode cL_law 204 = .ok (.i2l, 1) := by decide +kernel
theorem dL_law_205 : decode cL_law 205 = .ok (.bipush 32, 2) := by decide +kernel
theorem dL_law_207 : decode cL_law 207 = .ok (.lshl, 1) := by decide +kernel
theorem dL_law_208 : decode cL_law 208 = .ok (.aload_n 0, 1) := by decide +kernel
theorem dL_law_209 : decode cL_law 209 = .ok (.iload_n 3, 1) := by decide +kernel
theorem dL_law_210 : decode cL_law 210 = .ok (.iconst 3, 1) := by decide +kernel
theorem dL_law_211 : decode cL_law 211 = .ok (.iadd, 1) := by decide +kernel
theorem dL_law_212 : decode cL_law 212 = .ok (.iaload, 1) := by decide +kernel
theorem dL_law_213 : decode cL_law 213 = .ok (.i2l, 1) := by decide +kernel
theorem dL_law_214 : decode cL_law 214 = .ok (.ldc2_w 13, 3) := by decide +kernel
theorem dL_law_217 : decode cL_law 217 = .ok (.land, 1) := by decide +kernel
theorem dL_law_218 : decode cL_law 218 = .ok (.lor, 1) := by decide +kernel
theorem dL_law_219 : decode cL_law 219 = .ok (.invokevirtual 19, 3) := by decide +kernel
theorem dL_law_222 : decode cL_law 222 = .ok (.if_icmp .eq 1202, 3) := by decide +kernel
theorem dL_law_225 : decode cL_law 225 = .ok (.iconst 0, 1) := by decide +kernel
theorem dL_law_226 : decode cL_law 226 = .ok (.ireturn, 1) := by decide +kernel
theorem dL_law_227 : decode cL_law 227 = .ok (.aload_n 1, 1) := by decide +kernel
theorem dL_law_228 : decode cL_law 228 = .ok (.aload_n 0, 1) := by decide +kernel
theorem dL_law_229 : decode cL_law 229 = .ok (.iload_n 3, 1) := by decide +kernel
theorem dL_law_230 : decode cL_law 230 = .ok (.iconst 1, 1) := by decide +kernel
theorem dL_law_231 : decode cL_law 231 = .ok (.iadd, 1) := by decide +kernel
theorem dL_law_232 : decode cL_law 232 = .ok (.iaload, 1) := by decide +kernel
theorem dL_law_233 : decode cL_law 233 = .ok (.aload_n 0, 1) := by decide +kernel
theorem dL_law_234 : decode cL_law 234 = .ok (.iload_n 3, 1) := by decide +kernel
theorem dL_law_235 : decode cL_law 235 = .ok (.iconst 2, 1) := by decide +kernel
theorem dL_law_236 : decode cL_law 236 = .ok (.iadd, 1) := by decide +kernel
theorem dL_law_237 : decode cL_law 237 = .ok (.iaload, 1) := by decide +kernel
theorem dL_law_238 : decode cL_law 238 = .ok (.i2l, 1) := by decide +kernel
theorem dL_law_239 : decode cL_law 239 = .ok (.bipush 32, 2) := by decide +kernel
theorem dL_law_241 : decode cL_law 241 = .ok (.lshl, 1) := by decide +kernel
theorem dL_law_242 : decode cL_law 242 = .ok (.aload_n 0, 1) := by decide +kernel
theorem dL_law_243 : decode cL_law 243 = .ok (.iload_n 3, 1) := by decide +kernel
theorem dL_law_244 : decode cL_law 244 = .ok (.iconst 3, 1) := by decide +kernel
theorem dL_law_245 : decode cL_law 245 = .ok (.iadd, 1) := by decide +kernel
theorem dL_law_246 : decode cL_law 246 = .ok (.iaload, 1) := by decide +kernel
theorem dL_law_247 : decode cL_law 247 = .ok (.i2l, 1) := by decide +kernel
theorem dL_law_248 : decode cL_law 248 = .ok (.ldc2_w 13, 3) := by decide +kernel
theorem dL_law_251 : decode cL_law 251 = .ok (.land, 1) := by decide +kernel
theorem dL_law_252 : decode cL_law 252 = .ok (.lor, 1) := by decide +kernel
theorem dL_law_253 : decode cL_law 253 = .ok (.invokevirtual 20, 3) := by decide +kernel
theorem dL_law_256 : decode cL_law 256 = .ok (.aload_n 2, 1) := by decide +kernel
theorem dL_law_257 : decode cL_law 257 = .ok (.aload_n 0, 1) := by decide +kernel
theorem dL_law_258 : decode cL_law 258 = .ok (.iload_n 3, 1) := by decide +kernel
theorem dL_law_259 : decode cL_law 259 = .ok (.iconst 1, 1) := by decide +kernel
theorem dL_law_260 : decode cL_law 260 = .ok (.iadd, 1) := by decide +kernel
theorem dL_law_261 : decode cL_law 261 = .ok (.iaload, 1) := by decide +kernel
theorem dL_law_262 : decode cL_law 262 = .ok (.aload_n 0, 1) := by decide +kernel
theorem dL_law_263 : decode cL_law 263 = .ok (.iload_n 3, 1) := by decide +kernel
theorem dL_law_264 : decode cL_law 264 = .ok (.iconst 2, 1) := by decide +kernel
theorem dL_law_265 : decode cL_law 265 = .ok (.iadd, 1) := by decide +kernel
theorem dL_law_266 : decode cL_law 266 = .ok (.iaload, 1) := by decide +kernel
theorem dL_law_267 : decode cL_law 267 = .ok (.i2l, 1) := by decide +kernel
theorem dL_law_268 : decode cL_law 268 = .ok (.bipush 32, 2) := by decide +kernel
theorem dL_law_270 : decode cL_law 270 = .ok (.lshl, 1) := by decide +kernel
theorem dL_law_271 : decode cL_law 271 = .ok (.aload_n 0, 1) := by decide +kernel
theorem dL_law_272 : decode cL_law 272 = .ok (.iload_n 3, 1) := by decide +kernel
theorem dL_law_273 : decode cL_law 273 = .ok (.iconst 3, 1) := by decide +kernel
theorem dL_law_274 : decode cL_law 274 = .ok (.iadd, 1) := by decide +kernel
theorem dL_law_275 : decode cL_law 275 = .ok (.iaload, 1) := by decide +kernel
theorem dL_law_276 : decode cL_law 276 = .ok (.i2l, 1) := by decide +kernel
theorem dL_law_277 : decode cL_law 277 = .ok (.ldc2_w 13, 3) := by decide +kernel
theorem dL_law_280 : decode cL_law 280 = .ok (.land, 1) := by decide +kernel
theorem dL_law_281 : decode cL_law 281 = .ok (.lor, 1) := by decide +kernel
theorem dL_law_282 : decode cL_law 282 = .ok (.invokevirtual 24, 3) := by decide +kernel
theorem dL_law_285 : decode cL_law 285 = .ok (.if_icmp .eq 1139, 3) := by decide +kernel
theorem dL_law_288 : decode cL_law 288 = .ok (.iconst 0, 1) := by decide +kernel
theorem dL_law_289 : decode cL_law 289 = .ok (.ireturn, 1) := by decide +kernel
theorem dL_law_290 : decode cL_law 290 = .ok (.aload_n 1, 1) := by decide +kernel
theorem dL_law_291 : decode cL_law 291 = .ok (.aload_n 0, 1) := by decide +kernel
theorem dL_law_292 : decode cL_law 292 = .ok (.iload_n 3, 1) := by decide +kernel
theorem dL_law_293 : decode cL_law 293 = .ok (.iconst 1, 1) := by decide +kernel
theorem dL_law_294 : decode cL_law 294 = .ok (.iadd, 1) := by decide +kernel
theorem dL_law_295 : decode cL_law 295 = .ok (.iaload, 1) := by decide +kernel
theorem dL_law_296 : decode cL_law 296 = .ok (.aload_n 0, 1) := by decide +kernel
theorem dL_law_297 : decode cL_law 297 = .ok (.iload_n 3, 1) := by decide +kernel
theorem dL_law_298 : decode cL_law 298 = .ok (.iconst 2, 1) := by decide +kernel
theorem dL_law_299 : decode cL_law 299 = .ok (.iadd, 1) := by decide +kernel
theorem dL_law_300 : decode cL_law 300 = .ok (.iaload, 1) := by decide +kernel
theorem dL_law_301 : decode cL_law 301 = .ok (.i2l, 1) := by decide +kernel
theorem dL_law_302 : decode cL_law 302 = .ok (.bipush 32, 2) := by decide +kernel
theorem dL_law_304 : decode cL_law 304 = .ok (.lshl, 1) := by decide +kernel
end
section
theorem dL_law_305 : decode cL_law 305 = .ok (.aload_n 0, 1) := by decide +kernel
theorem dL_law_306 : decode cL_law 306 = .ok (.iload_n 3, 1) := by decide +kernel
theorem dL_law_307 : decode cL_law 307 = .ok (.iconst 3, 1) := by decide +kernel
theorem dL_law_308 : decode cL_law 308 = .ok (.iadd, 1) := by decide +kernel
theorem dL_law_309 : decode cL_law 309 = .ok (.iaload, 1) := by decide +kernel
theorem dL_law_310 : decode cL_law 310 = .ok (.i2l, 1) := by decide +kernel
theorem dL_law_311 : decode cL_law 311 = .ok (.ldc2_w 13, 3) := by decide +kernel
theorem dL_law_314 : decode cL_law 314 = .ok (.land, 1) := by decide +kernel
theorem dL_law_315 : decode cL_law 315 = .ok (.lor, 1) := by decide +kernel
theorem dL_law_316 : decode cL_law 316 = .ok (.aload_n 0, 1) := by decide +kernel
theorem dL_law_317 : decode cL_law 317 = .ok (.iload_n 3, 1) := by decide +kernel
theorem dL_law_318 : decode cL_law 318 = .ok (.iconst 4, 1) := by decide +kernel
theorem dL_law_319 : decode cL_law 319 = .ok (.iadd, 1) := by decide +kernel
theorem dL_law_320 : decode cL_law 320 = .ok (.iaload, 1) := by decide +kernel
theorem dL_law_321 : decode cL_law 321 = .ok (.invokevirtual 25, 3) := by decide +kernel
theorem dL_law_324 : decode cL_law 324 = .ok (.aload_n 2, 1) := by decide +kernel
theorem dL_law_325 : decode cL_law 325 = .ok (.aload_n 0, 1) := by decide +kernel
theorem dL_law_326 : decode cL_law 326 = .ok (.iload_n 3, 1) := by decide +kernel
theorem dL_law_327 : decode cL_law 327 = .ok (.iconst 1, 1) := by decide +kernel
theorem dL_law_328 : decode cL_law 328 = .ok (.iadd, 1) := by decide +kernel
theorem dL_law_329 : decode cL_law 329 = .ok (.iaload, 1) := by decide +kernel
theorem dL_law_330 : decode cL_law 330 = .ok (.aload_n 0, 1) := by decide +kernel
theorem dL_law_331 : decode cL_law 331 = .ok (.iload_n 3, 1) := by decide +kernel
theorem dL_law_332 : decode cL_law 332 = .ok (.iconst 2, 1) := by decide +kernel
theorem dL_law_333 : decode cL_law 333 = .ok (.iadd, 1) := by decide +kernel
theorem dL_law_334 : decode cL_law 334 = .ok (.iaload, 1) := by decide +kernel
theorem dL_law_335 : decode cL_law 335 = .ok (.i2l, 1) := by decide +kernel
theorem dL_law_336 : decode cL_law 336 = .ok (.bipush 32, 2) := by decide +kernel
theorem dL_law_338 : decode cL_law 338 = .ok (.lshl, 1) := by decide +kernel
theorem dL_law_339 : decode cL_law 339 = .ok (.aload_n 0, 1) := by decide +kernel
theorem dL_law_340 : decode cL_law 340 = .ok (.iload_n 3, 1) := by decide +kernel
theorem dL_law_341 : decode cL_law 341 = .ok (.iconst 3, 1) := by decide +kernel
theorem dL_law_342 : decode cL_law 342 = .ok (.iadd, 1) := by decide +kernel
theorem dL_law_343 : decode cL_law 343 = .ok (.iaload, 1) := by decide +kernel
theorem dL_law_344 : decode cL_law 344 = .ok (.i2l, 1) := by decide +kernel
theorem dL_law_345 : decode cL_law 345 = .ok (.ldc2_w 13, 3) := by decide +kernel
theorem dL_law_348 : decode cL_law 348 = .ok (.land, 1) := by decide +kernel
theorem dL_law_349 : decode cL_law 349 = .ok (.lor, 1) := by decide +kernel
theorem dL_law_350 : decode cL_law 350 = .ok (.aload_n 0, 1) := by decide +kernel
theorem dL_law_351 : decode cL_law 351 = .ok (.iload_n 3, 1) := by decide +kernel
theorem dL_law_352 : decode cL_law 352 = .ok (.iconst 4, 1) := by decide +kernel
theorem dL_law_353 : decode cL_law 353 = .ok (.iadd, 1) := by decide +kernel
theorem dL_law_354 : decode cL_law 354 = .ok (.iaload, 1) := by decide +kernel
theorem dL_law_355 : decode cL_law 355 = .ok (.invokevirtual 29, 3) := by decide +kernel
theorem dL_law_358 : decode cL_law 358 = .ok (.if_icmp .eq 1066, 3) := by decide +kernel
theorem dL_law_361 : decode cL_law 361 = .ok (.iconst 0, 1) := by decide +kernel
theorem dL_law_362 : decode cL_law 362 = .ok (.ireturn, 1) := by decide +kernel
theorem dL_law_363 : decode cL_law 363 = .ok (.aload_n 1, 1) := by decide +kernel
theorem dL_law_364 : decode cL_law 364 = .ok (.aload_n 0, 1) := by decide +kernel
theorem dL_law_365 : decode cL_law 365 = .ok (.iload_n 3, 1) := by decide +kernel
theorem dL_law_366 : decode cL_law 366 = .ok (.iconst 1, 1) := by decide +kernel
theorem dL_law_367 : decode cL_law 367 = .ok (.iadd, 1) := by decide +kernel
theorem dL_law_368 : decode cL_law 368 = .ok (.iaload, 1) := by decide +kernel
theorem dL_law_369 : decode cL_law 369 = .ok (.aload_n 0, 1) := by decide +kernel
theorem dL_law_370 : decode cL_law 370 = .ok (.iload_n 3, 1) := by decide +kernel
theorem dL_law_371 : decode cL_law 371 = .ok (.iconst 2, 1) := by decide +kernel
theorem dL_law_372 : decode cL_law 372 = .ok (.iadd, 1) := by decide +kernel
theorem dL_law_373 : decode cL_law 373 = .ok (.iaload, 1) := by decide +kernel
theorem dL_law_374 : decode cL_law 374 = .ok (.invokevirtual 30, 3) := by decide +kernel
theorem dL_law_377 : decode cL_law 377 = .ok (.aload_n 2, 1) := by decide +kernel
theorem dL_law_378 : decode cL_law 378 = .ok (.aload_n 0, 1) := by decide +kernel
theorem dL_law_379 : decode cL_law 379 = .ok (.iload_n 3, 1) := by decide +kernel
theorem dL_law_380 : decode cL_law 380 = .ok (.iconst 1, 1) := by decide +kernel
theorem dL_law_381 : decode cL_law 381 = .ok (.iadd, 1) := by decide +kernel
theorem dL_law_382 : decode cL_law 382 = .ok (.iaload, 1) := by decide +kernel
theorem dL_law_383 : decode cL_law 383 = .ok (.aload_n 0, 1) := by decide +kernel
theorem dL_law_384 : decode cL_law 384 = .ok (.iload_n 3, 1) := by decide +kernel
theorem dL_law_385 : decode cL_law 385 = .ok (.iconst 2, 1) := by decide +kernel
theorem dL_law_386 : decode cL_law 386 = .ok (.iadd, 1) := by decide +kernel
theorem dL_law_387 : decode cL_law 387 = .ok (.iaload, 1) := by decide +kernel
theorem dL_law_388 : decode cL_law 388 = .ok (.invokevirtual 34, 3) := by decide +kernel
theorem dL_law_391 : decode cL_law 391 = .ok (.lcmp, 1) := by decide +kernel
theorem dL_law_392 : decode cL_law 392 = .ok (.ifCond .eq 1032, 3) := by decide +kernel
theorem dL_law_395 : decode cL_law 395 = .ok (.iconst 0, 1) := by decide +kernel
theorem dL_law_396 : decode cL_law 396 = .ok (.ireturn, 1) := by decide +kernel
theorem dL_law_397 : decode cL_law 397 = .ok (.aload_n 1, 1) := by decide +kernel
theorem dL_law_398 : decode cL_law 398 = .ok (.aload_n 0, 1) := by decide +kernel
theorem dL_law_399 : decode cL_law 399 = .ok (.iload_n 3, 1) := by decide +kernel
theorem dL_law_400 : decode cL_law 400 = .ok (.iconst 1, 1) := by decide +kernel
theorem dL_law_401 : decode cL_law 401 = .ok (.iadd, 1) := by decide +kernel
theorem dL_law_402 : decode cL_law 402 = .ok (.iaload, 1) := by decide +kernel
theorem dL_law_403 : decode cL_law 403 = .ok (.invokevirtual 35, 3) := by decide +kernel
theorem dL_law_406 : decode cL_law 406 = .ok (.aload_n 2, 1) := by decide +kernel
theorem dL_law_407 : decode cL_law 407 = .ok (.aload_n 0, 1) := by decide +kernel
theorem dL_law_408 : decode cL_law 408 = .ok (.iload_n 3, 1) := by decide +kernel
theorem dL_law_409 : decode cL_law 409 = .ok (.iconst 1, 1) := by decide +kernel
theorem dL_law_410 : decode cL_law 410 = .ok (.iadd, 1) := by decide +kernel
theorem dL_law_411 : decode cL_law 411 = .ok (.iaload, 1) := by decide +kernel
theorem dL_law_412 : decode cL_law 412 = .ok (.invokevirtual 39, 3) := by decide +kernel
theorem dL_law_415 : decode cL_law 415 = .ok (.lcmp, 1) := by decide +kernel
theorem dL_law_416 : decode cL_law 416 = .ok (.ifCond .eq 1008, 3) := by decide +kernel
theorem dL_law_419 : decode cL_law 419 = .ok (.iconst 0, 1) := by decide +kernel
theorem dL_law_420 : decode cL_law 420 = .ok (.ireturn, 1) := by decide +kernel
theorem dL_law_421 : decode cL_law 421 = .ok (.aload_n 1, 1) := by decide +kernel
theorem dL_law_422 : decode cL_law 422 = .ok (.aload_n 0, 1) := by decide +kernel
theorem dL_law_423 : decode cL_law 423 = .ok (.iload_n 3, 1) := by decide +kernel
theorem dL_law_424 : decode cL_law 424 = .ok (.iconst 1, 1) := by decide +kernel
theorem dL_law_425 : decode cL_law 425 = .ok (.iadd, 1) := by decide +kernel
theorem dL_law_426 : decode cL_law 426 = .ok (.iaload, 1) := by decide +kernel
theorem dL_law_427 : decode cL_law 427 = .ok (.invokevirtual 40, 3) := by decide +kernel
theorem dL_law_430 : decode cL_law 430 = .ok (.aload_n 2, 1) := by decide +kernel
theorem dL_law_431 : decode cL_law 431 = .ok (.aload_n 0, 1) := by decide +kernel
theorem dL_law_432 : decode cL_law 432 = .ok (.iload_n 3, 1) := by decide +kernel
theorem dL_law_433 : decode cL_law 433 = .ok (.iconst 1, 1) := by decide +kernel
theorem dL_law_434 : decode cL_law 434 = .ok (.iadd, 1) := by decide +kernel
theorem dL_law_435 : decode cL_law 435 = .ok (.iaload, 1) := by decide +kernel
theorem dL_law_436 : decode cL_law 436 = .ok (.invokevirtual 44, 3) := by decide +kernel
theorem dL_law_439 : decode cL_law 439 = .ok (.if_icmp .eq 985, 3) := by decide +kernel
theorem dL_law_442 : decode cL_law 442 = .ok (.iconst 0, 1) := by decide +kernel
theorem dL_law_443 : decode cL_law 443 = .ok (.ireturn, 1) := by decide +kernel
theorem dL_law_444 : decode cL_law 444 = .ok (.aload_n 1, 1) := by decide +kernel
theorem dL_law_445 : decode cL_law 445 = .ok (.aload_n 0, 1) := by decide +kernel
theorem dL_law_446 : decode cL_law 446 = .ok (.iload_n 3, 1) := by decide +kernel
theorem dL_law_447 : decode cL_law 447 = .ok (.iconst 1, 1) := by decide +kernel
theorem dL_law_448 : decode cL_law 448 = .ok (.iadd, 1) := by decide +kernel
theorem dL_law_449 : decode cL_law 449 = .ok (.iaload, 1) := by decide +kernel
theorem dL_law_450 : decode cL_law 450 = .ok (.aload_n 0, 1) := by decide +kernel
theorem dL_law_451 : decode cL_law 451 = .ok (.iload_n 3, 1) := by decide +kernel
theorem dL_law_452 : decode cL_law 452 = .ok (.iconst 2, 1) := by decide +kernel
theorem dL_law_453 : decode cL_law 453 = .ok (.iadd, 1) := by decide +kernel
theorem dL_law_454 : decode cL_law 454 = .ok (.iaload, 1) := by decide +kernel
theorem dL_law_455 : decode cL_law 455 = .ok (.i2l, 1) := by decide +kernel
theorem dL_law_456 : decode cL_law 456 = .ok (.bipush 32, 2) := by decide +kernel
theorem dL_law_458 : decode cL_law 458 = .ok (.lshl, 1) := by decide +kernel
theorem dL_law_459 : decode cL_law 459 = .ok (.aload_n 0, 1) := by decide +kernel
theorem dL_law_460 : decode cL_law 460 = .ok (.iload_n 3, 1) := by decide +kernel
theorem dL_law_461 : decode cL_law 461 = .ok (.iconst 3, 1) := by decide +kernel
theorem dL_law_462 : decode cL_law 462 = .ok (.iadd, 1) := by decide +kernel
theorem dL_law_463 : decode cL_law 463 = .ok (.iaload, 1) := by decide +kernel
theorem dL_law_464 : decode cL_law 464 = .ok (.i2l, 1) := by decide +kernel
theorem dL_law_465 : decode cL_law 465 = .ok (.ldc2_w 13, 3) := by decide +kernel
theorem dL_law_468 : decode cL_law 468 = .ok (.land, 1) := by decide +kernel
theorem dL_law_469 : decode cL_law 469 = .ok (.lor, 1) := by decide +kernel
theorem dL_law_470 : decode cL_law 470 = .ok (.invokevirtual 45, 3) := by decide +kernel
theorem dL_law_473 : decode cL_law 473 = .ok (.aload_n 2, 1) := by decide +kernel
theorem dL_law_474 : decode cL_law 474 = .ok (.aload_n 0, 1) := by decide +kernel
theorem dL_law_475 : decode cL_law 475 = .ok (.iload_n 3, 1) := by decide +kernel
theorem dL_law_476 : decode cL_law 476 = .ok (.iconst 1, 1) := by decide +kernel
theorem dL_law_477 : decode cL_law 477 = .ok (.iadd, 1) := by decide +kernel
theorem dL_law_478 : decode cL_law 478 = .ok (.iaload, 1) := by decide +kernel
theorem dL_law_479 : decode cL_law 479 = .ok (.aload_n 0, 1) := by decide +kernel
theorem dL_law_480 : decode cL_law 480 = .ok (.iload_n 3, 1) := by decide +kernel
theorem dL_law_481 : decode cL_law 481 = .ok (.iconst 2, 1) := by decide +kernel
theorem dL_law_482 : decode cL_law 482 = .ok (.iadd, 1) := by decide +kernel
theorem dL_law_483 : decode cL_law 483 = .ok (.iaload, 1) := by decide +kernel
theorem dL_law_484 : decode cL_law 484 = .ok (.i2l, 1) := by decide +kernel
theorem dL_law_485 : decode cL_law 485 = .ok (.bipush 32, 2) := by decide +kernel
theorem dL_law_487 : decode cL_law 487 = .ok (.lshl, 1) := by decide +kernel
theorem dL_law_488 : decode cL_law 488 = .ok (.aload_n 0, 1) := by decide +kernel
theorem dL_law_489 : decode cL_law 489 = .ok (.iload_n 3, 1) := by decide +kernel
theorem dL_law_490 : decode cL_law 490 = .ok (.iconst 3, 1) := by decide +kernel
theorem dL_law_491 : decode cL_law 491 = .ok (.iadd, 1) := by decide +kernel
theorem dL_law_492 : decode cL_law 492 = .ok (.iaload, 1) := by decide +kernel
theorem dL_law_493 : decode cL_law 493 = .ok (.i2l, 1) := by decide +kernel
theorem dL_law_494 : decode cL_law 494 = .ok (.ldc2_w 13, 3) := by decide +kernel
theorem dL_law_497 : decode cL_law 497 = .ok (.land, 1) := by decide +kernel
theorem dL_law_498 : decode cL_law 498 = .ok (.lor, 1) := by decide +kernel
theorem dL_law_499 : decode cL_law 499 = .ok (.invokevirtual 48, 3) := by decide +kernel
theorem dL_law_502 : decode cL_law 502 = .ok (.if_icmp .eq 922, 3) := by decide +kernel
theorem dL_law_505 : decode cL_law 505 = .ok (.iconst 0, 1) := by decide +kernel
theorem dL_law_506 : decode cL_law 506 = .ok (.ireturn, 1) := by decide +kernel
theorem dL_law_507 : decode cL_law 507 = .ok (.aload_n 1, 1) := by decide +kernel
theorem dL_law_508 : decode cL_law 508 = .ok (.aload_n 0, 1) := by decide +kernel
theorem dL_law_509 : decode cL_law 509 = .ok (.iload_n 3, 1) := by decide +kernel
theorem dL_law_510 : decode cL_law 510 = .ok (.iconst 1, 1) := by decide +kernel
theorem dL_law_511 : decode cL_law 511 = .ok (.iadd, 1) := by decide +kernel
theorem dL_law_512 : decode cL_law 512 = .ok (.iaload, 1) := by decide +kernel
theorem dL_law_513 : decode cL_law 513 = .ok (.aload_n 0, 1) := by decide +kernel
theorem dL_law_514 : decode cL_law 514 = .ok (.iload_n 3, 1) := by decide +kernel
theorem dL_law_515 : decode cL_law 515 = .ok (.iconst 2, 1) := by decide +kernel
theorem dL_law_516 : decode cL_law 516 = .ok (.iadd, 1) := by decide +kernel
theorem dL_law_517 : decode cL_law 517 = .ok (.iaload, 1) := by decide +kernel
theorem dL_law_518 : decode cL_law 518 = .ok (.invokevirtual 49, 3) := by decide +kernel
theorem dL_law_521 : decode cL_law 521 = .ok (.aload_n 2, 1) := by decide +kernel
theorem dL_law_522 : decode cL_law 522 = .ok (.aload_n 0, 1) := by decide +kernel
theorem dL_law_523 : decode cL_law 523 = .ok (.iload_n 3, 1) := by decide +kernel
theorem dL_law_524 : decode cL_law 524 = .ok (.iconst 1, 1) := by decide +kernel
theorem dL_law_525 : decode cL_law 525 = .ok (.iadd, 1) := by decide +kernel
theorem dL_law_526 : decode cL_law 526 = .ok (.iaload, 1) := by decide +kernel
theorem dL_law_527 : decode cL_law 527 = .ok (.aload_n 0, 1) := by decide +kernel
theorem dL_law_528 : decode cL_law 528 = .ok (.iload_n 3, 1) := by decide +kernel
theorem dL_law_529 : decode cL_law 529 = .ok (.iconst 2, 1) := by decide +kernel
theorem dL_law_530 : decode cL_law 530 = .ok (.iadd, 1) := by decide +kernel
theorem dL_law_531 : decode cL_law 531 = .ok (.iaload, 1) := by decide +kernel
theorem dL_law_532 : decode cL_law 532 = .ok (.invokevirtual 53, 3) := by decide +kernel
theorem dL_law_535 : decode cL_law 535 = .ok (.if_icmp .eq 889, 3) := by decide +kernel
theorem dL_law_538 : decode cL_law 538 = .ok (.iconst 0, 1) := by decide +kernel
theorem dL_law_539 : decode cL_law 539 = .ok (.ireturn, 1) := by decide +kernel
theorem dL_law_540 : decode cL_law 540 = .ok (.aload_n 1, 1) := by decide +kernel
theorem dL_law_541 : decode cL_law 541 = .ok (.aload_n 0, 1) := by decide +kernel
theorem dL_law_542 : decode cL_law 542 = .ok (.iload_n 3, 1) := by decide +kernel
theorem dL_law_543 : decode cL_law 543 = .ok (.iconst 1, 1) := by decide +kernel
theorem dL_law_544 : decode cL_law 544 = .ok (.iadd, 1) := by decide +kernel
theorem dL_law_545 : decode cL_law 545 = .ok (.iaload, 1) := by decide +kernel
theorem dL_law_546 : decode cL_law 546 = .ok (.aload_n 0, 1) := by decide +kernel
theorem dL_law_547 : decode cL_law 547 = .ok (.iload_n 3, 1) := by decide +kernel
theorem dL_law_548 : decode cL_law 548 = .ok (.iconst 2, 1) := by decide +kernel
theorem dL_law_549 : decode cL_law 549 = .ok (.iadd, 1) := by decide +kernel
theorem dL_law_550 : decode cL_law 550 = .ok (.iaload, 1) := by decide +kernel
theorem dL_law_551 : decode cL_law 551 = .ok (.invokevirtual 54, 3) := by decide +kernel
theorem dL_law_554 : decode cL_law 554 = .ok (.aload_n 2, 1) := by decide +kernel
theorem dL_law_555 : decode cL_law 555 = .ok (.aload_n 0, 1) := by decide +kernel
theorem dL_law_556 : decode cL_law 556 = .ok (.iload_n 3, 1) := by decide +kernel
theorem dL_law_557 : decode cL_law 557 = .ok (.iconst 1, 1) := by decide +kernel
theorem dL_law_558 : decode cL_law 558 = .ok (.iadd, 1) := by decide +kernel
theorem dL_law_559 : decode cL_law 559 = .ok (.iaload, 1) := by decide +kernel
theorem dL_law_560 : decode cL_law 560 = .ok (.aload_n 0, 1) := by decide +kernel
theorem dL_law_561 : decode cL_law 561 = .ok (.iload_n 3, 1) := by decide +kernel
theorem dL_law_562 : decode cL_law 562 = .ok (.iconst 2, 1) := by decide +kernel
theorem dL_law_563 : decode cL_law 563 = .ok (.iadd, 1) := by decide +kernel
theorem dL_law_564 : decode cL_law 564 = .ok (.iaload, 1) := by decide +kernel
theorem dL_law_565 : decode cL_law 565 = .ok (.invokevirtual 57, 3) := by decide +kernel
theorem dL_law_568 : decode cL_law 568 = .ok (.if_icmp .eq 856, 3) := by decide +kernel
theorem dL_law_571 : decode cL_law 571 = .ok (.iconst 0, 1) := by decide +kernel
theorem dL_law_572 : decode cL_law 572 = .ok (.ireturn, 1) := by decide +kernel
theorem dL_law_573 : decode cL_law 573 = .ok (.aload_n 1, 1) := by decide +kernel
theorem dL_law_574 : decode cL_law 574 = .ok (.aload_n 0, 1) := by decide +kernel
theorem dL_law_575 : decode cL_law 575 = .ok (.iload_n 3, 1) := by decide +kernel
theorem dL_law_576 : decode cL_law 576 = .ok (.iconst 1, 1) := by decide +kernel
theorem dL_law_577 : decode cL_law 577 = .ok (.iadd, 1) := by decide +kernel
theorem dL_law_578 : decode cL_law 578 = .ok (.iaload, 1) := by decide +kernel
theorem dL_law_579 : decode cL_law 579 = .ok (.aload_n 0, 1) := by decide +kernel
theorem dL_law_580 : decode cL_law 580 = .ok (.iload_n 3, 1) := by decide +kernel
theorem dL_law_581 : decode cL_law 581 = .ok (.iconst 2, 1) := by decide +kernel
theorem dL_law_582 : decode cL_law 582 = .ok (.iadd, 1) := by decide +kernel
theorem dL_law_583 : decode cL_law 583 = .ok (.iaload, 1) := by decide +kernel
theorem dL_law_584 : decode cL_law 584 = .ok (.invokevirtual 58, 3) := by decide +kernel
theorem dL_law_587 : decode cL_law 587 = .ok (.aload_n 2, 1) := by decide +kernel
theorem dL_law_588 : decode cL_law 588 = .ok (.aload_n 0, 1) := by decide +kernel
theorem dL_law_589 : decode cL_law 589 = .ok (.iload_n 3, 1) := by decide +kernel
theorem dL_law_590 : decode cL_law 590 = .ok (.iconst 1, 1) := by decide +kernel
theorem dL_law_591 : decode cL_law 591 = .ok (.iadd, 1) := by decide +kernel
theorem dL_law_592 : decode cL_law 592 = .ok (.iaload, 1) := by decide +kernel
theorem dL_law_593 : decode cL_law 593 = .ok (.aload_n 0, 1) := by decide +kernel
theorem dL_law_594 : decode cL_law 594 = .ok (.iload_n 3, 1) := by decide +kernel
theorem dL_law_595 : decode cL_law 595 = .ok (.iconst 2, 1) := by decide +kernel
theorem dL_law_596 : decode cL_law 596 = .ok (.iadd, 1) := by decide +kernel
theorem dL_law_597 : decode cL_law 597 = .ok (.iaload, 1) := by decide +kernel
theorem dL_law_598 : decode cL_law 598 = .ok (.invokevirtual 61, 3) := by decide +kernel
theorem dL_law_601 : decode cL_law 601 = .ok (.if_icmp .eq 823, 3) := by decide +kernel
theorem dL_law_604 : decode cL_law 604 = .ok (.iconst 0, 1) := by decide +kernel
theorem dL_law_605 : decode cL_law 605 = .ok (.ireturn, 1) := by decide +kernel
theorem dL_law_606 : decode cL_law 606 = .ok (.aload_n 1, 1) := by decide +kernel
theorem dL_law_607 : decode cL_law 607 = .ok (.aload_n 0, 1) := by decide +kernel
theorem dL_law_608 : decode cL_law 608 = .ok (.iload_n 3, 1) := by decide +kernel
theorem dL_law_609 : decode cL_law 609 = .ok (.iconst 1, 1) := by decide +kernel
theorem dL_law_610 : decode cL_law 610 = .ok (.iadd, 1) := by decide +kernel
theorem dL_law_611 : decode cL_law 611 = .ok (.iaload, 1) := by decide +kernel
theorem dL_law_612 : decode cL_law 612 = .ok (.aload_n 0, 1) := by decide +kernel
theorem dL_law_613 : decode cL_law 613 = .ok (.iload_n 3, 1) := by decide +kernel
end
section
theorem dL_law_614 : decode cL_law 614 = .ok (.iconst 2, 1) := by decide +kernel
theorem dL_law_615 : decode cL_law 615 = .ok (.iadd, 1) := by decide +kernel
theorem dL_law_616 : decode cL_law 616 = .ok (.iaload, 1) := by decide +kernel
theorem dL_law_617 : decode cL_law 617 = .ok (.aload_n 0, 1) := by decide +kernel
theorem dL_law_618 : decode cL_law 618 = .ok (.iload_n 3, 1) := by decide +kernel
theorem dL_law_619 : decode cL_law 619 = .ok (.iconst 3, 1) := by decide +kernel
theorem dL_law_620 : decode cL_law 620 = .ok (.iadd, 1) := by decide +kernel
theorem dL_law_621 : decode cL_law 621 = .ok (.iaload, 1) := by decide +kernel
theorem dL_law_622 : decode cL_law 622 = .ok (.invokevirtual 62, 3) := by decide +kernel
theorem dL_law_625 : decode cL_law 625 = .ok (.aload_n 2, 1) := by decide +kernel
theorem dL_law_626 : decode cL_law 626 = .ok (.aload_n 0, 1) := by decide +kernel
theorem dL_law_627 : decode cL_law 627 = .ok (.iload_n 3, 1) := by decide +kernel
theorem dL_law_628 : decode cL_law 628 = .ok (.iconst 1, 1) := by decide +kernel
theorem dL_law_629 : decode cL_law 629 = .ok (.iadd, 1) := by decide +kernel
theorem dL_law_630 : decode cL_law 630 = .ok (.iaload, 1) := by decide +kernel
theorem dL_law_631 : decode cL_law 631 = .ok (.aload_n 0, 1) := by decide +kernel
theorem dL_law_632 : decode cL_law 632 = .ok (.iload_n 3, 1) := by decide +kernel
theorem dL_law_633 : decode cL_law 633 = .ok (.iconst 2, 1) := by decide +kernel
theorem dL_law_634 : decode cL_law 634 = .ok (.iadd, 1) := by decide +kernel
theorem dL_law_635 : decode cL_law 635 = .ok (.iaload, 1) := by decide +kernel
theorem dL_law_636 : decode cL_law 636 = .ok (.aload_n 0, 1) := by decide +kernel
theorem dL_law_637 : decode cL_law 637 = .ok (.iload_n 3, 1) := by decide +kernel
theorem dL_law_638 : decode cL_law 638 = .ok (.iconst 3, 1) := by decide +kernel
theorem dL_law_639 : decode cL_law 639 = .ok (.iadd, 1) := by decide +kernel
theorem dL_law_640 : decode cL_law 640 = .ok (.iaload, 1) := by decide +kernel
theorem dL_law_641 : decode cL_law 641 = .ok (.invokevirtual 66, 3) := by decide +kernel
theorem dL_law_644 : decode cL_law 644 = .ok (.if_icmp .eq 780, 3) := by decide +kernel
theorem dL_law_647 : decode cL_law 647 = .ok (.iconst 0, 1) := by decide +kernel
theorem dL_law_648 : decode cL_law 648 = .ok (.ireturn, 1) := by decide +kernel
theorem dL_law_649 : decode cL_law 649 = .ok (.aload_n 1, 1) := by decide +kernel
theorem dL_law_650 : decode cL_law 650 = .ok (.aload_n 0, 1) := by decide +kernel
theorem dL_law_651 : decode cL_law 651 = .ok (.iload_n 3, 1) := by decide +kernel
theorem dL_law_652 : decode cL_law 652 = .ok (.iconst 1, 1) := by decide +kernel
theorem dL_law_653 : decode cL_law 653 = .ok (.iadd, 1) := by decide +kernel
theorem dL_law_654 : decode cL_law 654 = .ok (.iaload, 1) := by decide +kernel
theorem dL_law_655 : decode cL_law 655 = .ok (.aload_n 0, 1) := by decide +kernel
theorem dL_law_656 : decode cL_law 656 = .ok (.iload_n 3, 1) := by decide +kernel
theorem dL_law_657 : decode cL_law 657 = .ok (.iconst 2, 1) := by decide +kernel
theorem dL_law_658 : decode cL_law 658 = .ok (.iadd, 1) := by decide +kernel
theorem dL_law_659 : decode cL_law 659 = .ok (.iaload, 1) := by decide +kernel
theorem dL_law_660 : decode cL_law 660 = .ok (.invokevirtual 67, 3) := by decide +kernel
theorem dL_law_663 : decode cL_law 663 = .ok (.aload_n 2, 1) := by decide +kernel
theorem dL_law_664 : decode cL_law 664 = .ok (.aload_n 0, 1) := by decide +kernel
theorem dL_law_665 : decode cL_law 665 = .ok (.iload_n 3, 1) := by decide +kernel
theorem dL_law_666 : decode cL_law 666 = .ok (.iconst 1, 1) := by decide +kernel
theorem dL_law_667 : decode cL_law 667 = .ok (.iadd, 1) := by decide +kernel
theorem dL_law_668 : decode cL_law 668 = .ok (.iaload, 1) := by decide +kernel
theorem dL_law_669 : decode cL_law 669 = .ok (.aload_n 0, 1) := by decide +kernel
theorem dL_law_670 : decode cL_law 670 = .ok (.iload_n 3, 1) := by decide +kernel
theorem dL_law_671 : decode cL_law 671 = .ok (.iconst 2, 1) := by decide +kernel
theorem dL_law_672 : decode cL_law 672 = .ok (.iadd, 1) := by decide +kernel
theorem dL_law_673 : decode cL_law 673 = .ok (.iaload, 1) := by decide +kernel
theorem dL_law_674 : decode cL_law 674 = .ok (.invokevirtual 70, 3) := by decide +kernel
theorem dL_law_677 : decode cL_law 677 = .ok (.if_icmp .eq 747, 3) := by decide +kernel
theorem dL_law_680 : decode cL_law 680 = .ok (.iconst 0, 1) := by decide +kernel
theorem dL_law_681 : decode cL_law 681 = .ok (.ireturn, 1) := by decide +kernel
theorem dL_law_682 : decode cL_law 682 = .ok (.aload_n 1, 1) := by decide +kernel
theorem dL_law_683 : decode cL_law 683 = .ok (.aload_n 0, 1) := by decide +kernel
theorem dL_law_684 : decode cL_law 684 = .ok (.iload_n 3, 1) := by decide +kernel
theorem dL_law_685 : decode cL_law 685 = .ok (.iconst 1, 1) := by decide +kernel
theorem dL_law_686 : decode cL_law 686 = .ok (.iadd, 1) := by decide +kernel
theorem dL_law_687 : decode cL_law 687 = .ok (.iaload, 1) := by decide +kernel
theorem dL_law_688 : decode cL_law 688 = .ok (.aload_n 0, 1) := by decide +kernel
theorem dL_law_689 : decode cL_law 689 = .ok (.iload_n 3, 1) := by decide +kernel
theorem dL_law_690 : decode cL_law 690 = .ok (.iconst 2, 1) := by decide +kernel
theorem dL_law_691 : decode cL_law 691 = .ok (.iadd, 1) := by decide +kernel
theorem dL_law_692 : decode cL_law 692 = .ok (.iaload, 1) := by decide +kernel
theorem dL_law_693 : decode cL_law 693 = .ok (.invokevirtual 71, 3) := by decide +kernel
theorem dL_law_696 : decode cL_law 696 = .ok (.aload_n 2, 1) := by decide +kernel
theorem dL_law_697 : decode cL_law 697 = .ok (.aload_n 0, 1) := by decide +kernel
theorem dL_law_698 : decode cL_law 698 = .ok (.iload_n 3, 1) := by decide +kernel
theorem dL_law_699 : decode cL_law 699 = .ok (.iconst 1, 1) := by decide +kernel
theorem dL_law_700 : decode cL_law 700 = .ok (.iadd, 1) := by decide +kernel
theorem dL_law_701 : decode cL_law 701 = .ok (.iaload, 1) := by decide +kernel
theorem dL_law_702 : decode cL_law 702 = .ok (.aload_n 0, 1) := by decide +kernel
theorem dL_law_703 : decode cL_law 703 = .ok (.iload_n 3, 1) := by decide +kernel
theorem dL_law_704 : decode cL_law 704 = .ok (.iconst 2, 1) := by decide +kernel
theorem dL_law_705 : decode cL_law 705 = .ok (.iadd, 1) := by decide +kernel
theorem dL_law_706 : decode cL_law 706 = .ok (.iaload, 1) := by decide +kernel
theorem dL_law_707 : decode cL_law 707 = .ok (.invokevirtual 74, 3) := by decide +kernel
theorem dL_law_710 : decode cL_law 710 = .ok (.if_icmp .eq 714, 3) := by decide +kernel
theorem dL_law_713 : decode cL_law 713 = .ok (.iconst 0, 1) := by decide +kernel
theorem dL_law_714 : decode cL_law 714 = .ok (.ireturn, 1) := by decide +kernel
theorem dL_law_715 : decode cL_law 715 = .ok (.aload_n 1, 1) := by decide +kernel
theorem dL_law_716 : decode cL_law 716 = .ok (.aload_n 0, 1) := by decide +kernel
theorem dL_law_717 : decode cL_law 717 = .ok (.iload_n 3, 1) := by decide +kernel
theorem dL_law_718 : decode cL_law 718 = .ok (.iconst 1, 1) := by decide +kernel
theorem dL_law_719 : decode cL_law 719 = .ok (.iadd, 1) := by decide +kernel
theorem dL_law_720 : decode cL_law 720 = .ok (.iaload, 1) := by decide +kernel
theorem dL_law_721 : decode cL_law 721 = .ok (.invokevirtual 75, 3) := by decide +kernel
theorem dL_law_724 : decode cL_law 724 = .ok (.aload_n 2, 1) := by decide +kernel
theorem dL_law_725 : decode cL_law 725 = .ok (.aload_n 0, 1) := by decide +kernel
theorem dL_law_726 : decode cL_law 726 = .ok (.iload_n 3, 1) := by decide +kernel
theorem dL_law_727 : decode cL_law 727 = .ok (.iconst 1, 1) := by decide +kernel
theorem dL_law_728 : decode cL_law 728 = .ok (.iadd, 1) := by decide +kernel
theorem dL_law_729 : decode cL_law 729 = .ok (.iaload, 1) := by decide +kernel
theorem dL_law_730 : decode cL_law 730 = .ok (.invokevirtual 78, 3) := by decide +kernel
theorem dL_law_733 : decode cL_law 733 = .ok (.if_icmp .eq 691, 3) := by decide +kernel
theorem dL_law_736 : decode cL_law 736 = .ok (.iconst 0, 1) := by decide +kernel
theorem dL_law_737 : decode cL_law 737 = .ok (.ireturn, 1) := by decide +kernel
theorem dL_law_738 : decode cL_law 738 = .ok (.aload_n 1, 1) := by decide +kernel
theorem dL_law_739 : decode cL_law 739 = .ok (.aload_n 0, 1) := by decide +kernel
theorem dL_law_740 : decode cL_law 740 = .ok (.iload_n 3, 1) := by decide +kernel
theorem dL_law_741 : decode cL_law 741 = .ok (.iconst 1, 1) := by decide +kernel
theorem dL_law_742 : decode cL_law 742 = .ok (.iadd, 1) := by decide +kernel
theorem dL_law_743 : decode cL_law 743 = .ok (.iaload, 1) := by decide +kernel
theorem dL_law_744 : decode cL_law 744 = .ok (.aload_n 0, 1) := by decide +kernel
theorem dL_law_745 : decode cL_law 745 = .ok (.iload_n 3, 1) := by decide +kernel
theorem dL_law_746 : decode cL_law 746 = .ok (.iconst 2, 1) := by decide +kernel
theorem dL_law_747 : decode cL_law 747 = .ok (.iadd, 1) := by decide +kernel
theorem dL_law_748 : decode cL_law 748 = .ok (.iaload, 1) := by decide +kernel
theorem dL_law_749 : decode cL_law 749 = .ok (.ifCond .eq 7, 3) := by decide +kernel
theorem dL_law_752 : decode cL_law 752 = .ok (.iconst 1, 1) := by decide +kernel
theorem dL_law_753 : decode cL_law 753 = .ok (.goto 4, 3) := by decide +kernel
theorem dL_law_756 : decode cL_law 756 = .ok (.iconst 0, 1) := by decide +kernel
theorem dL_law_757 : decode cL_law 757 = .ok (.aload_n 0, 1) := by decide +kernel
theorem dL_law_758 : decode cL_law 758 = .ok (.iload_n 3, 1) := by decide +kernel
theorem dL_law_759 : decode cL_law 759 = .ok (.iconst 3, 1) := by decide +kernel
theorem dL_law_760 : decode cL_law 760 = .ok (.iadd, 1) := by decide +kernel
theorem dL_law_761 : decode cL_law 761 = .ok (.iaload, 1) := by decide +kernel
theorem dL_law_762 : decode cL_law 762 = .ok (.invokevirtual 79, 3) := by decide +kernel
theorem dL_law_765 : decode cL_law 765 = .ok (.aload_n 2, 1) := by decide +kernel
theorem dL_law_766 : decode cL_law 766 = .ok (.aload_n 0, 1) := by decide +kernel
theorem dL_law_767 : decode cL_law 767 = .ok (.iload_n 3, 1) := by decide +kernel
theorem dL_law_768 : decode cL_law 768 = .ok (.iconst 1, 1) := by decide +kernel
theorem dL_law_769 : decode cL_law 769 = .ok (.iadd, 1) := by decide +kernel
theorem dL_law_770 : decode cL_law 770 = .ok (.iaload, 1) := by decide +kernel
theorem dL_law_771 : decode cL_law 771 = .ok (.aload_n 0, 1) := by decide +kernel
theorem dL_law_772 : decode cL_law 772 = .ok (.iload_n 3, 1) := by decide +kernel
theorem dL_law_773 : decode cL_law 773 = .ok (.iconst 2, 1) := by decide +kernel
theorem dL_law_774 : decode cL_law 774 = .ok (.iadd, 1) := by decide +kernel
theorem dL_law_775 : decode cL_law 775 = .ok (.iaload, 1) := by decide +kernel
theorem dL_law_776 : decode cL_law 776 = .ok (.ifCond .eq 7, 3) := by decide +kernel
theorem dL_law_779 : decode cL_law 779 = .ok (.iconst 1, 1) := by decide +kernel
theorem dL_law_780 : decode cL_law 780 = .ok (.goto 4, 3) := by decide +kernel
theorem dL_law_783 : decode cL_law 783 = .ok (.iconst 0, 1) := by decide +kernel
theorem dL_law_784 : decode cL_law 784 = .ok (.aload_n 0, 1) := by decide +kernel
theorem dL_law_785 : decode cL_law 785 = .ok (.iload_n 3, 1) := by decide +kernel
theorem dL_law_786 : decode cL_law 786 = .ok (.iconst 3, 1) := by decide +kernel
theorem dL_law_787 : decode cL_law 787 = .ok (.iadd, 1) := by decide +kernel
theorem dL_law_788 : decode cL_law 788 = .ok (.iaload, 1) := by decide +kernel
theorem dL_law_789 : decode cL_law 789 = .ok (.invokevirtual 83, 3) := by decide +kernel
theorem dL_law_792 : decode cL_law 792 = .ok (.if_icmp .eq 632, 3) := by decide +kernel
theorem dL_law_795 : decode cL_law 795 = .ok (.iconst 0, 1) := by decide +kernel
theorem dL_law_796 : decode cL_law 796 = .ok (.ireturn, 1) := by decide +kernel
theorem dL_law_797 : decode cL_law 797 = .ok (.aload_n 1, 1) := by decide +kernel
theorem dL_law_798 : decode cL_law 798 = .ok (.aload_n 0, 1) := by decide +kernel
theorem dL_law_799 : decode cL_law 799 = .ok (.iload_n 3, 1) := by decide +kernel
theorem dL_law_800 : decode cL_law 800 = .ok (.iconst 1, 1) := by decide +kernel
theorem dL_law_801 : decode cL_law 801 = .ok (.iadd, 1) := by decide +kernel
theorem dL_law_802 : decode cL_law 802 = .ok (.iaload, 1) := by decide +kernel
theorem dL_law_803 : decode cL_law 803 = .ok (.aload_n 0, 1) := by decide +kernel
theorem dL_law_804 : decode cL_law 804 = .ok (.iload_n 3, 1) := by decide +kernel
theorem dL_law_805 : decode cL_law 805 = .ok (.iconst 2, 1) := by decide +kernel
theorem dL_law_806 : decode cL_law 806 = .ok (.iadd, 1) := by decide +kernel
theorem dL_law_807 : decode cL_law 807 = .ok (.iaload, 1) := by decide +kernel
theorem dL_law_808 : decode cL_law 808 = .ok (.ifCond .eq 7, 3) := by decide +kernel
theorem dL_law_811 : decode cL_law 811 = .ok (.iconst 1, 1) := by decide +kernel
theorem dL_law_812 : decode cL_law 812 = .ok (.goto 4, 3) := by decide +kernel
theorem dL_law_815 : decode cL_law 815 = .ok (.iconst 0, 1) := by decide +kernel
theorem dL_law_816 : decode cL_law 816 = .ok (.aload_n 0, 1) := by decide +kernel
theorem dL_law_817 : decode cL_law 817 = .ok (.iload_n 3, 1) := by decide +kernel
theorem dL_law_818 : decode cL_law 818 = .ok (.iconst 3, 1) := by decide +kernel
theorem dL_law_819 : decode cL_law 819 = .ok (.iadd, 1) := by decide +kernel
theorem dL_law_820 : decode cL_law 820 = .ok (.iaload, 1) := by decide +kernel
theorem dL_law_821 : decode cL_law 821 = .ok (.aload_n 0, 1) := by decide +kernel
theorem dL_law_822 : decode cL_law 822 = .ok (.iload_n 3, 1) := by decide +kernel
theorem dL_law_823 : decode cL_law 823 = .ok (.iconst 4, 1) := by decide +kernel
theorem dL_law_824 : decode cL_law 824 = .ok (.iadd, 1) := by decide +kernel
theorem dL_law_825 : decode cL_law 825 = .ok (.iaload, 1) := by decide +kernel
theorem dL_law_826 : decode cL_law 826 = .ok (.i2l, 1) := by decide +kernel
theorem dL_law_827 : decode cL_law 827 = .ok (.bipush 32, 2) := by decide +kernel
theorem dL_law_829 : decode cL_law 829 = .ok (.lshl, 1) := by decide +kernel
theorem dL_law_830 : decode cL_law 830 = .ok (.aload_n 0, 1) := by decide +kernel
theorem dL_law_831 : decode cL_law 831 = .ok (.iload_n 3, 1) := by decide +kernel
theorem dL_law_832 : decode cL_law 832 = .ok (.iconst 5, 1) := by decide +kernel
theorem dL_law_833 : decode cL_law 833 = .ok (.iadd, 1) := by decide +kernel
theorem dL_law_834 : decode cL_law 834 = .ok (.iaload, 1) := by decide +kernel
theorem dL_law_835 : decode cL_law 835 = .ok (.i2l, 1) := by decide +kernel
theorem dL_law_836 : decode cL_law 836 = .ok (.ldc2_w 13, 3) := by decide +kernel
theorem dL_law_839 : decode cL_law 839 = .ok (.land, 1) := by decide +kernel
theorem dL_law_840 : decode cL_law 840 = .ok (.lor, 1) := by decide +kernel
theorem dL_law_841 : decode cL_law 841 = .ok (.invokevirtual 84, 3) := by decide +kernel
theorem dL_law_844 : decode cL_law 844 = .ok (.aload_n 2, 1) := by decide +kernel
theorem dL_law_845 : decode cL_law 845 = .ok (.aload_n 0, 1) := by decide +kernel
theorem dL_law_846 : decode cL_law 846 = .ok (.iload_n 3, 1) := by decide +kernel
theorem dL_law_847 : decode cL_law 847 = .ok (.iconst 1, 1) := by decide +kernel
theorem dL_law_848 : decode cL_law 848 = .ok (.iadd, 1) := by decide +kernel
theorem dL_law_849 : decode cL_law 849 = .ok (.iaload, 1) := by decide +kernel
theorem dL_law_850 : decode cL_law 850 = .ok (.aload_n 0, 1) := by decide +kernel
theorem dL_law_851 : decode cL_law 851 = .ok (.iload_n 3, 1) := by decide +kernel
theorem dL_law_852 : decode cL_law 852 = .ok (.iconst 2, 1) := by decide +kernel
theorem dL_law_853 : decode cL_law 853 = .ok (.iadd, 1) := by decide +kernel
theorem dL_law_854 : decode cL_law 854 = .ok (.iaload, 1) := by decide +kernel
theorem dL_law_855 : decode cL_law 855 = .ok (.ifCond .eq 7, 3) := by decide +kernel
theorem dL_law_858 : decode cL_law 858 = .ok (.iconst 1, 1) := by decide +kernel
theorem dL_law_859 : decode cL_law 859 = .ok (.goto 4, 3) := by decide +kernel
theorem dL_law_862 : decode cL_law 862 = .ok (.iconst 0, 1) := by decide +kernel
theorem dL_law_863 : decode cL_law 863 = .ok (.aload_n 0, 1) := by decide +kernel
theorem dL_law_864 : decode cL_law 864 = .ok (.iload_n 3, 1) := by decide +kernel
theorem dL_law_865 : decode cL_law 865 = .ok (.iconst 3, 1) := by decide +kernel
theorem dL_law_866 : decode cL_law 866 = .ok (.iadd, 1) := by decide +kernel
theorem dL_law_867 : decode cL_law 867 = .ok (.iaload, 1) := by decide +kernel
theorem dL_law_868 : decode cL_law 868 = .ok (.aload_n 0, 1) := by decide +kernel
theorem dL_law_869 : decode cL_law 869 = .ok (.iload_n 3, 1) := by decide +kernel
theorem dL_law_870 : decode cL_law 870 = .ok (.iconst 4, 1) := by decide +kernel
theorem dL_law_871 : decode cL_law 871 = .ok (.iadd, 1) := by decide +kernel
theorem dL_law_872 : decode cL_law 872 = .ok (.iaload, 1) := by decide +kernel
theorem dL_law_873 : decode cL_law 873 = .ok (.i2l, 1) := by decide +kernel
theorem dL_law_874 : decode cL_law 874 = .ok (.bipush 32, 2) := by decide +kernel
theorem dL_law_876 : decode cL_law 876 = .ok (.lshl, 1) := by decide +kernel
theorem dL_law_877 : decode cL_law 877 = .ok (.aload_n 0, 1) := by decide +kernel
theorem dL_law_878 : decode cL_law 878 = .ok (.iload_n 3, 1) := by decide +kernel
theorem dL_law_879 : decode cL_law 879 = .ok (.iconst 5, 1) := by decide +kernel
theorem dL_law_880 : decode cL_law 880 = .ok (.iadd, 1) := by decide +kernel
theorem dL_law_881 : decode cL_law 881 = .ok (.iaload, 1) := by decide +kernel
theorem dL_law_882 : decode cL_law 882 = .ok (.i2l, 1) := by decide +kernel
theorem dL_law_883 : decode cL_law 883 = .ok (.ldc2_w 13, 3) := by decide +kernel
theorem dL_law_886 : decode cL_law 886 = .ok (.land, 1) := by decide +kernel
theorem dL_law_887 : decode cL_law 887 = .ok (.lor, 1) := by decide +kernel
theorem dL_law_888 : decode cL_law 888 = .ok (.invokevirtual 88, 3) := by decide +kernel
theorem dL_law_891 : decode cL_law 891 = .ok (.if_icmp .eq 533, 3) := by decide +kernel
theorem dL_law_894 : decode cL_law 894 = .ok (.iconst 0, 1) := by decide +kernel
theorem dL_law_895 : decode cL_law 895 = .ok (.ireturn, 1) := by decide +kernel
theorem dL_law_896 : decode cL_law 896 = .ok (.aload_n 1, 1) := by decide +kernel
theorem dL_law_897 : decode cL_law 897 = .ok (.aload_n 0, 1) := by decide +kernel
theorem dL_law_898 : decode cL_law 898 = .ok (.iload_n 3, 1) := by decide +kernel
theorem dL_law_899 : decode cL_law 899 = .ok (.iconst 1, 1) := by decide +kernel
theorem dL_law_900 : decode cL_law 900 = .ok (.iadd, 1) := by decide +kernel
theorem dL_law_901 : decode cL_law 901 = .ok (.iaload, 1) := by decide +kernel
theorem dL_law_902 : decode cL_law 902 = .ok (.aload_n 0, 1) := by decide +kernel
theorem dL_law_903 : decode cL_law 903 = .ok (.iload_n 3, 1) := by decide +kernel
theorem dL_law_904 : decode cL_law 904 = .ok (.iconst 2, 1) := by decide +kernel
theorem dL_law_905 : decode cL_law 905 = .ok (.iadd, 1) := by decide +kernel
theorem dL_law_906 : decode cL_law 906 = .ok (.iaload, 1) := by decide +kernel
theorem dL_law_907 : decode cL_law 907 = .ok (.ifCond .eq 7, 3) := by decide +kernel
theorem dL_law_910 : decode cL_law 910 = .ok (.iconst 1, 1) := by decide +kernel
theorem dL_law_911 : decode cL_law 911 = .ok (.goto 4, 3) := by decide +kernel
theorem dL_law_914 : decode cL_law 914 = .ok (.iconst 0, 1) := by decide +kernel
theorem dL_law_915 : decode cL_law 915 = .ok (.aload_n 0, 1) := by decide +kernel
theorem dL_law_916 : decode cL_law 916 = .ok (.iload_n 3, 1) := by decide +kernel
theorem dL_law_917 : decode cL_law 917 = .ok (.iconst 3, 1) := by decide +kernel
theorem dL_law_918 : decode cL_law 918 = .ok (.iadd, 1) := by decide +kernel
theorem dL_law_919 : decode cL_law 919 = .ok (.iaload, 1) := by decide +kernel
theorem dL_law_920 : decode cL_law 920 = .ok (.invokevirtual 89, 3) := by decide +kernel
theorem dL_law_923 : decode cL_law 923 = .ok (.aload_n 2, 1) := by decide +kernel
theorem dL_law_924 : decode cL_law 924 = .ok (.aload_n 0, 1) := by decide +kernel
theorem dL_law_925 : decode cL_law 925 = .ok (.iload_n 3, 1) := by decide +kernel
theorem dL_law_926 : decode cL_law 926 = .ok (.iconst 1, 1) := by decide +kernel
theorem dL_law_927 : decode cL_law 927 = .ok (.iadd, 1) := by decide +kernel
end
section
theorem dL_law_928 : decode cL_law 928 = .ok (.iaload, 1) := by decide +kernel
theorem dL_law_929 : decode cL_law 929 = .ok (.aload_n 0, 1) := by decide +kernel
theorem dL_law_930 : decode cL_law 930 = .ok (.iload_n 3, 1) := by decide +kernel
theorem dL_law_931 : decode cL_law 931 = .ok (.iconst 2, 1) := by decide +kernel
theorem dL_law_932 : decode cL_law 932 = .ok (.iadd, 1) := by decide +kernel
theorem dL_law_933 : decode cL_law 933 = .ok (.iaload, 1) := by decide +kernel
theorem dL_law_934 : decode cL_law 934 = .ok (.ifCond .eq 7, 3) := by decide +kernel
theorem dL_law_937 : decode cL_law 937 = .ok (.iconst 1, 1) := by decide +kernel
theorem dL_law_938 : decode cL_law 938 = .ok (.goto 4, 3) := by decide +kernel
theorem dL_law_941 : decode cL_law 941 = .ok (.iconst 0, 1) := by decide +kernel
theorem dL_law_942 : decode cL_law 942 = .ok (.aload_n 0, 1) := by decide +kernel
theorem dL_law_943 : decode cL_law 943 = .ok (.iload_n 3, 1) := by decide +kernel
theorem dL_law_944 : decode cL_law 944 = .ok (.iconst 3, 1) := by decide +kernel
theorem dL_law_945 : decode cL_law 945 = .ok (.iadd, 1) := by decide +kernel
theorem dL_law_946 : decode cL_law 946 = .ok (.iaload, 1) := by decide +kernel
theorem dL_law_947 : decode cL_law 947 = .ok (.invokevirtual 92, 3) := by decide +kernel
theorem dL_law_950 : decode cL_law 950 = .ok (.if_icmp .eq 474, 3) := by decide +kernel
theorem dL_law_953 : decode cL_law 953 = .ok (.iconst 0, 1) := by decide +kernel
theorem dL_law_954 : decode cL_law 954 = .ok (.ireturn, 1) := by decide +kernel
theorem dL_law_955 : decode cL_law 955 = .ok (.aload_n 1, 1) := by decide +kernel
theorem dL_law_956 : decode cL_law 956 = .ok (.invokevirtual 93, 3) := by decide +kernel
theorem dL_law_959 : decode cL_law 959 = .ok (.aload_n 2, 1) := by decide +kernel
theorem dL_law_960 : decode cL_law 960 = .ok (.invokevirtual 97, 3) := by decide +kernel
theorem dL_law_963 : decode cL_law 963 = .ok (.lcmp, 1) := by decide +kernel
theorem dL_law_964 : decode cL_law 964 = .ok (.ifCond .eq 460, 3) := by decide +kernel
theorem dL_law_967 : decode cL_law 967 = .ok (.iconst 0, 1) := by decide +kernel
theorem dL_law_968 : decode cL_law 968 = .ok (.ireturn, 1) := by decide +kernel
theorem dL_law_969 : decode cL_law 969 = .ok (.aload_n 1, 1) := by decide +kernel
theorem dL_law_970 : decode cL_law 970 = .ok (.aload_n 0, 1) := by decide +kernel
theorem dL_law_971 : decode cL_law 971 = .ok (.iload_n 3, 1) := by decide +kernel
theorem dL_law_972 : decode cL_law 972 = .ok (.iconst 1, 1) := by decide +kernel
theorem dL_law_973 : decode cL_law 973 = .ok (.iadd, 1) := by decide +kernel
theorem dL_law_974 : decode cL_law 974 = .ok (.iaload, 1) := by decide +kernel
theorem dL_law_975 : decode cL_law 975 = .ok (.aload_n 0, 1) := by decide +kernel
theorem dL_law_976 : decode cL_law 976 = .ok (.iload_n 3, 1) := by decide +kernel
theorem dL_law_977 : decode cL_law 977 = .ok (.iconst 2, 1) := by decide +kernel
theorem dL_law_978 : decode cL_law 978 = .ok (.iadd, 1) := by decide +kernel
theorem dL_law_979 : decode cL_law 979 = .ok (.iaload, 1) := by decide +kernel
theorem dL_law_980 : decode cL_law 980 = .ok (.ifCond .eq 7, 3) := by decide +kernel
theorem dL_law_983 : decode cL_law 983 = .ok (.iconst 1, 1) := by decide +kernel
theorem dL_law_984 : decode cL_law 984 = .ok (.goto 4, 3) := by decide +kernel
theorem dL_law_987 : decode cL_law 987 = .ok (.iconst 0, 1) := by decide +kernel
theorem dL_law_988 : decode cL_law 988 = .ok (.aload_n 0, 1) := by decide +kernel
theorem dL_law_989 : decode cL_law 989 = .ok (.iload_n 3, 1) := by decide +kernel
theorem dL_law_990 : decode cL_law 990 = .ok (.iconst 3, 1) := by decide +kernel
theorem dL_law_991 : decode cL_law 991 = .ok (.iadd, 1) := by decide +kernel
theorem dL_law_992 : decode cL_law 992 = .ok (.iaload, 1) := by decide +kernel
theorem dL_law_993 : decode cL_law 993 = .ok (.aload_n 0, 1) := by decide +kernel
theorem dL_law_994 : decode cL_law 994 = .ok (.iload_n 3, 1) := by decide +kernel
theorem dL_law_995 : decode cL_law 995 = .ok (.iconst 4, 1) := by decide +kernel
theorem dL_law_996 : decode cL_law 996 = .ok (.iadd, 1) := by decide +kernel
theorem dL_law_997 : decode cL_law 997 = .ok (.iaload, 1) := by decide +kernel
theorem dL_law_998 : decode cL_law 998 = .ok (.invokevirtual 98, 3) := by decide +kernel
theorem dL_law_1001 : decode cL_law 1001 = .ok (.aload_n 2, 1) := by decide +kernel
theorem dL_law_1002 : decode cL_law 1002 = .ok (.aload_n 0, 1) := by decide +kernel
theorem dL_law_1003 : decode cL_law 1003 = .ok (.iload_n 3, 1) := by decide +kernel
theorem dL_law_1004 : decode cL_law 1004 = .ok (.iconst 1, 1) := by decide +kernel
theorem dL_law_1005 : decode cL_law 1005 = .ok (.iadd, 1) := by decide +kernel
theorem dL_law_1006 : decode cL_law 1006 = .ok (.iaload, 1) := by decide +kernel
theorem dL_law_1007 : decode cL_law 1007 = .ok (.aload_n 0, 1) := by decide +kernel
theorem dL_law_1008 : decode cL_law 1008 = .ok (.iload_n 3, 1) := by decide +kernel
theorem dL_law_1009 : decode cL_law 1009 = .ok (.iconst 2, 1) := by decide +kernel
theorem dL_law_1010 : decode cL_law 1010 = .ok (.iadd, 1) := by decide +kernel
theorem dL_law_1011 : decode cL_law 1011 = .ok (.iaload, 1) := by decide +kernel
theorem dL_law_1012 : decode cL_law 1012 = .ok (.ifCond .eq 7, 3) := by decide +kernel
theorem dL_law_1015 : decode cL_law 1015 = .ok (.iconst 1, 1) := by decide +kernel
theorem dL_law_1016 : decode cL_law 1016 = .ok (.goto 4, 3) := by decide +kernel
theorem dL_law_1019 : decode cL_law 1019 = .ok (.iconst 0, 1) := by decide +kernel
theorem dL_law_1020 : decode cL_law 1020 = .ok (.aload_n 0, 1) := by decide +kernel
theorem dL_law_1021 : decode cL_law 1021 = .ok (.iload_n 3, 1) := by decide +kernel
theorem dL_law_1022 : decode cL_law 1022 = .ok (.iconst 3, 1) := by decide +kernel
theorem dL_law_1023 : decode cL_law 1023 = .ok (.iadd, 1) := by decide +kernel
theorem dL_law_1024 : decode cL_law 1024 = .ok (.iaload, 1) := by decide +kernel
theorem dL_law_1025 : decode cL_law 1025 = .ok (.aload_n 0, 1) := by decide +kernel
theorem dL_law_1026 : decode cL_law 1026 = .ok (.iload_n 3, 1) := by decide +kernel
theorem dL_law_1027 : decode cL_law 1027 = .ok (.iconst 4, 1) := by decide +kernel
theorem dL_law_1028 : decode cL_law 1028 = .ok (.iadd, 1) := by decide +kernel
theorem dL_law_1029 : decode cL_law 1029 = .ok (.iaload, 1) := by decide +kernel
theorem dL_law_1030 : decode cL_law 1030 = .ok (.invokevirtual 102, 3) := by decide +kernel
theorem dL_law_1033 : decode cL_law 1033 = .ok (.if_icmp .eq 391, 3) := by decide +kernel
theorem dL_law_1036 : decode cL_law 1036 = .ok (.iconst 0, 1) := by decide +kernel
theorem dL_law_1037 : decode cL_law 1037 = .ok (.ireturn, 1) := by decide +kernel
theorem dL_law_1038 : decode cL_law 1038 = .ok (.aload_n 1, 1) := by decide +kernel
theorem dL_law_1039 : decode cL_law 1039 = .ok (.aload_n 0, 1) := by decide +kernel
theorem dL_law_1040 : decode cL_law 1040 = .ok (.iload_n 3, 1) := by decide +kernel
theorem dL_law_1041 : decode cL_law 1041 = .ok (.iconst 1, 1) := by decide +kernel
theorem dL_law_1042 : decode cL_law 1042 = .ok (.iadd, 1) := by decide +kernel
theorem dL_law_1043 : decode cL_law 1043 = .ok (.iaload, 1) := by decide +kernel
theorem dL_law_1044 : decode cL_law 1044 = .ok (.aload_n 0, 1) := by decide +kernel
theorem dL_law_1045 : decode cL_law 1045 = .ok (.iload_n 3, 1) := by decide +kernel
theorem dL_law_1046 : decode cL_law 1046 = .ok (.iconst 2, 1) := by decide +kernel
theorem dL_law_1047 : decode cL_law 1047 = .ok (.iadd, 1) := by decide +kernel
theorem dL_law_1048 : decode cL_law 1048 = .ok (.iaload, 1) := by decide +kernel
theorem dL_law_1049 : decode cL_law 1049 = .ok (.ifCond .eq 7, 3) := by decide +kernel
theorem dL_law_1052 : decode cL_law 1052 = .ok (.iconst 1, 1) := by decide +kernel
theorem dL_law_1053 : decode cL_law 1053 = .ok (.goto 4, 3) := by decide +kernel
theorem dL_law_1056 : decode cL_law 1056 = .ok (.iconst 0, 1) := by decide +kernel
theorem dL_law_1057 : decode cL_law 1057 = .ok (.aload_n 0, 1) := by decide +kernel
theorem dL_law_1058 : decode cL_law 1058 = .ok (.iload_n 3, 1) := by decide +kernel
theorem dL_law_1059 : decode cL_law 1059 = .ok (.iconst 3, 1) := by decide +kernel
theorem dL_law_1060 : decode cL_law 1060 = .ok (.iadd, 1) := by decide +kernel
theorem dL_law_1061 : decode cL_law 1061 = .ok (.iaload, 1) := by decide +kernel
theorem dL_law_1062 : decode cL_law 1062 = .ok (.aload_n 0, 1) := by decide +kernel
theorem dL_law_1063 : decode cL_law 1063 = .ok (.iload_n 3, 1) := by decide +kernel
theorem dL_law_1064 : decode cL_law 1064 = .ok (.iconst 4, 1) := by decide +kernel
theorem dL_law_1065 : decode cL_law 1065 = .ok (.iadd, 1) := by decide +kernel
theorem dL_law_1066 : decode cL_law 1066 = .ok (.iaload, 1) := by decide +kernel
theorem dL_law_1067 : decode cL_law 1067 = .ok (.invokevirtual 103, 3) := by decide +kernel
theorem dL_law_1070 : decode cL_law 1070 = .ok (.aload_n 2, 1) := by decide +kernel
theorem dL_law_1071 : decode cL_law 1071 = .ok (.aload_n 0, 1) := by decide +kernel
theorem dL_law_1072 : decode cL_law 1072 = .ok (.iload_n 3, 1) := by decide +kernel
theorem dL_law_1073 : decode cL_law 1073 = .ok (.iconst 1, 1) := by decide +kernel
theorem dL_law_1074 : decode cL_law 1074 = .ok (.iadd, 1) := by decide +kernel
theorem dL_law_1075 : decode cL_law 1075 = .ok (.iaload, 1) := by decide +kernel
theorem dL_law_1076 : decode cL_law 1076 = .ok (.aload_n 0, 1) := by decide +kernel
theorem dL_law_1077 : decode cL_law 1077 = .ok (.iload_n 3, 1) := by decide +kernel
theorem dL_law_1078 : decode cL_law 1078 = .ok (.iconst 2, 1) := by decide +kernel
theorem dL_law_1079 : decode cL_law 1079 = .ok (.iadd, 1) := by decide +kernel
theorem dL_law_1080 : decode cL_law 1080 = .ok (.iaload, 1) := by decide +kernel
theorem dL_law_1081 : decode cL_law 1081 = .ok (.ifCond .eq 7, 3) := by decide +kernel
theorem dL_law_1084 : decode cL_law 1084 = .ok (.iconst 1, 1) := by decide +kernel
theorem dL_law_1085 : decode cL_law 1085 = .ok (.goto 4, 3) := by decide +kernel
theorem dL_law_1088 : decode cL_law 1088 = .ok (.iconst 0, 1) := by decide +kernel
theorem dL_law_1089 : decode cL_law 1089 = .ok (.aload_n 0, 1) := by decide +kernel
theorem dL_law_1090 : decode cL_law 1090 = .ok (.iload_n 3, 1) := by decide +kernel
theorem dL_law_1091 : decode cL_law 1091 = .ok (.iconst 3, 1) := by decide +kernel
theorem dL_law_1092 : decode cL_law 1092 = .ok (.iadd, 1) := by decide +kernel
theorem dL_law_1093 : decode cL_law 1093 = .ok (.iaload, 1) := by decide +kernel
theorem dL_law_1094 : decode cL_law 1094 = .ok (.aload_n 0, 1) := by decide +kernel
theorem dL_law_1095 : decode cL_law 1095 = .ok (.iload_n 3, 1) := by decide +kernel
theorem dL_law_1096 : decode cL_law 1096 = .ok (.iconst 4, 1) := by decide +kernel
theorem dL_law_1097 : decode cL_law 1097 = .ok (.iadd, 1) := by decide +kernel
theorem dL_law_1098 : decode cL_law 1098 = .ok (.iaload, 1) := by decide +kernel
theorem dL_law_1099 : decode cL_law 1099 = .ok (.invokevirtual 106, 3) := by decide +kernel
theorem dL_law_1102 : decode cL_law 1102 = .ok (.if_icmp .eq 322, 3) := by decide +kernel
theorem dL_law_1105 : decode cL_law 1105 = .ok (.iconst 0, 1) := by decide +kernel
theorem dL_law_1106 : decode cL_law 1106 = .ok (.ireturn, 1) := by decide +kernel
theorem dL_law_1107 : decode cL_law 1107 = .ok (.aload_n 1, 1) := by decide +kernel
theorem dL_law_1108 : decode cL_law 1108 = .ok (.aload_n 0, 1) := by decide +kernel
theorem dL_law_1109 : decode cL_law 1109 = .ok (.iload_n 3, 1) := by decide +kernel
theorem dL_law_1110 : decode cL_law 1110 = .ok (.iconst 1, 1) := by decide +kernel
theorem dL_law_1111 : decode cL_law 1111 = .ok (.iadd, 1) := by decide +kernel
theorem dL_law_1112 : decode cL_law 1112 = .ok (.iaload, 1) := by decide +kernel
theorem dL_law_1113 : decode cL_law 1113 = .ok (.aload_n 0, 1) := by decide +kernel
theorem dL_law_1114 : decode cL_law 1114 = .ok (.iload_n 3, 1) := by decide +kernel
theorem dL_law_1115 : decode cL_law 1115 = .ok (.iconst 2, 1) := by decide +kernel
theorem dL_law_1116 : decode cL_law 1116 = .ok (.iadd, 1) := by decide +kernel
theorem dL_law_1117 : decode cL_law 1117 = .ok (.iaload, 1) := by decide +kernel
theorem dL_law_1118 : decode cL_law 1118 = .ok (.ifCond .eq 7, 3) := by decide +kernel
theorem dL_law_1121 : decode cL_law 1121 = .ok (.iconst 1, 1) := by decide +kernel
theorem dL_law_1122 : decode cL_law 1122 = .ok (.goto 4, 3) := by decide +kernel
theorem dL_law_1125 : decode cL_law 1125 = .ok (.iconst 0, 1) := by decide +kernel
theorem dL_law_1126 : decode cL_law 1126 = .ok (.aload_n 0, 1) := by decide +kernel
theorem dL_law_1127 : decode cL_law 1127 = .ok (.iload_n 3, 1) := by decide +kernel
theorem dL_law_1128 : decode cL_law 1128 = .ok (.iconst 3, 1) := by decide +kernel
theorem dL_law_1129 : decode cL_law 1129 = .ok (.iadd, 1) := by decide +kernel
theorem dL_law_1130 : decode cL_law 1130 = .ok (.iaload, 1) := by decide +kernel
theorem dL_law_1131 : decode cL_law 1131 = .ok (.i2l, 1) := by decide +kernel
theorem dL_law_1132 : decode cL_law 1132 = .ok (.bipush 32, 2) := by decide +kernel
theorem dL_law_1134 : decode cL_law 1134 = .ok (.lshl, 1) := by decide +kernel
theorem dL_law_1135 : decode cL_law 1135 = .ok (.aload_n 0, 1) := by decide +kernel
theorem dL_law_1136 : decode cL_law 1136 = .ok (.iload_n 3, 1) := by decide +kernel
theorem dL_law_1137 : decode cL_law 1137 = .ok (.iconst 4, 1) := by decide +kernel
theorem dL_law_1138 : decode cL_law 1138 = .ok (.iadd, 1) := by decide +kernel
theorem dL_law_1139 : decode cL_law 1139 = .ok (.iaload, 1) := by decide +kernel
theorem dL_law_1140 : decode cL_law 1140 = .ok (.i2l, 1) := by decide +kernel
theorem dL_law_1141 : decode cL_law 1141 = .ok (.ldc2_w 13, 3) := by decide +kernel
theorem dL_law_1144 : decode cL_law 1144 = .ok (.land, 1) := by decide +kernel
theorem dL_law_1145 : decode cL_law 1145 = .ok (.lor, 1) := by decide +kernel
theorem dL_law_1146 : decode cL_law 1146 = .ok (.invokevirtual 107, 3) := by decide +kernel
theorem dL_law_1149 : decode cL_law 1149 = .ok (.aload_n 2, 1) := by decide +kernel
theorem dL_law_1150 : decode cL_law 1150 = .ok (.aload_n 0, 1) := by decide +kernel
theorem dL_law_1151 : decode cL_law 1151 = .ok (.iload_n 3, 1) := by decide +kernel
theorem dL_law_1152 : decode cL_law 1152 = .ok (.iconst 1, 1) := by decide +kernel
theorem dL_law_1153 : decode cL_law 1153 = .ok (.iadd, 1) := by decide +kernel
theorem dL_law_1154 : decode cL_law 1154 = .ok (.iaload, 1) := by decide +kernel
theorem dL_law_1155 : decode cL_law 1155 = .ok (.aload_n 0, 1) := by decide +kernel
theorem dL_law_1156 : decode cL_law 1156 = .ok (.iload_n 3, 1) := by decide +kernel
theorem dL_law_1157 : decode cL_law 1157 = .ok (.iconst 2, 1) := by decide +kernel
theorem dL_law_1158 : decode cL_law 1158 = .ok (.iadd, 1) := by decide +kernel
theorem dL_law_1159 : decode cL_law 1159 = .ok (.iaload, 1) := by decide +kernel
theorem dL_law_1160 : decode cL_law 1160 = .ok (.ifCond .eq 7, 3) := by decide +kernel
theorem dL_law_1163 : decode cL_law 1163 = .ok (.iconst 1, 1) := by decide +kernel
theorem dL_law_1164 : decode cL_law 1164 = .ok (.goto 4, 3) := by decide +kernel
theorem dL_law_1167 : decode cL_law 1167 = .ok (.iconst 0, 1) := by decide +kernel
theorem dL_law_1168 : decode cL_law 1168 = .ok (.aload_n 0, 1) := by decide +kernel
theorem dL_law_1169 : decode cL_law 1169 = .ok (.iload_n 3, 1) := by decide +kernel
theorem dL_law_1170 : decode cL_law 1170 = .ok (.iconst 3, 1) := by decide +kernel
theorem dL_law_1171 : decode cL_law 1171 = .ok (.iadd, 1) := by decide +kernel
theorem dL_law_1172 : decode cL_law 1172 = .ok (.iaload, 1) := by decide +kernel
theorem dL_law_1173 : decode cL_law 1173 = .ok (.i2l, 1) := by decide +kernel
theorem dL_law_1174 : decode cL_law 1174 = .ok (.bipush 32, 2) := by decide +kernel
theorem dL_law_1176 : decode cL_law 1176 = .ok (.lshl, 1) := by decide +kernel
theorem dL_law_1177 : decode cL_law 1177 = .ok (.aload_n 0, 1) := by decide +kernel
theorem dL_law_1178 : decode cL_law 1178 = .ok (.iload_n 3, 1) := by decide +kernel
theorem dL_law_1179 : decode cL_law 1179 = .ok (.iconst 4, 1) := by decide +kernel
theorem dL_law_1180 : decode cL_law 1180 = .ok (.iadd, 1) := by decide +kernel
theorem dL_law_1181 : decode cL_law 1181 = .ok (.iaload, 1) := by decide +kernel
theorem dL_law_1182 : decode cL_law 1182 = .ok (.i2l, 1) := by decide +kernel
theorem dL_law_1183 : decode cL_law 1183 = .ok (.ldc2_w 13, 3) := by decide +kernel
theorem dL_law_1186 : decode cL_law 1186 = .ok (.land, 1) := by decide +kernel
theorem dL_law_1187 : decode cL_law 1187 = .ok (.lor, 1) := by decide +kernel
theorem dL_law_1188 : decode cL_law 1188 = .ok (.invokevirtual 111, 3) := by decide +kernel
theorem dL_law_1191 : decode cL_law 1191 = .ok (.if_icmp .eq 233, 3) := by decide +kernel
theorem dL_law_1194 : decode cL_law 1194 = .ok (.iconst 0, 1) := by decide +kernel
theorem dL_law_1195 : decode cL_law 1195 = .ok (.ireturn, 1) := by decide +kernel
theorem dL_law_1196 : decode cL_law 1196 = .ok (.aload_n 1, 1) := by decide +kernel
theorem dL_law_1197 : decode cL_law 1197 = .ok (.aload_n 0, 1) := by decide +kernel
theorem dL_law_1198 : decode cL_law 1198 = .ok (.iload_n 3, 1) := by decide +kernel
theorem dL_law_1199 : decode cL_law 1199 = .ok (.iconst 1, 1) := by decide +kernel
theorem dL_law_1200 : decode cL_law 1200 = .ok (.iadd, 1) := by decide +kernel
theorem dL_law_1201 : decode cL_law 1201 = .ok (.iaload, 1) := by decide +kernel
theorem dL_law_1202 : decode cL_law 1202 = .ok (.aload_n 0, 1) := by decide +kernel
theorem dL_law_1203 : decode cL_law 1203 = .ok (.iload_n 3, 1) := by decide +kernel
theorem dL_law_1204 : decode cL_law 1204 = .ok (.iconst 2, 1) := by decide +kernel
theorem dL_law_1205 : decode cL_law 1205 = .ok (.iadd, 1) := by decide +kernel
theorem dL_law_1206 : decode cL_law 1206 = .ok (.iaload, 1) := by decide +kernel
theorem dL_law_1207 : decode cL_law 1207 = .ok (.aload_n 0, 1) := by decide +kernel
theorem dL_law_1208 : decode cL_law 1208 = .ok (.iload_n 3, 1) := by decide +kernel
theorem dL_law_1209 : decode cL_law 1209 = .ok (.iconst 3, 1) := by decide +kernel
theorem dL_law_1210 : decode cL_law 1210 = .ok (.iadd, 1) := by decide +kernel
theorem dL_law_1211 : decode cL_law 1211 = .ok (.iaload, 1) := by decide +kernel
theorem dL_law_1212 : decode cL_law 1212 = .ok (.i2l, 1) := by decide +kernel
theorem dL_law_1213 : decode cL_law 1213 = .ok (.bipush 32, 2) := by decide +kernel
theorem dL_law_1215 : decode cL_law 1215 = .ok (.lshl, 1) := by decide +kernel
theorem dL_law_1216 : decode cL_law 1216 = .ok (.aload_n 0, 1) := by decide +kernel
theorem dL_law_1217 : decode cL_law 1217 = .ok (.iload_n 3, 1) := by decide +kernel
theorem dL_law_1218 : decode cL_law 1218 = .ok (.iconst 4, 1) := by decide +kernel
theorem dL_law_1219 : decode cL_law 1219 = .ok (.iadd, 1) := by decide +kernel
theorem dL_law_1220 : decode cL_law 1220 = .ok (.iaload, 1) := by decide +kernel
theorem dL_law_1221 : decode cL_law 1221 = .ok (.i2l, 1) := by decide +kernel
theorem dL_law_1222 : decode cL_law 1222 = .ok (.ldc2_w 13, 3) := by decide +kernel
theorem dL_law_1225 : decode cL_law 1225 = .ok (.land, 1) := by decide +kernel
theorem dL_law_1226 : decode cL_law 1226 = .ok (.lor, 1) := by decide +kernel
theorem dL_law_1227 : decode cL_law 1227 = .ok (.invokevirtual 112, 3) := by decide +kernel
theorem dL_law_1230 : decode cL_law 1230 = .ok (.aload_n 2, 1) := by decide +kernel
theorem dL_law_1231 : decode cL_law 1231 = .ok (.aload_n 0, 1) := by decide +kernel
theorem dL_law_1232 : decode cL_law 1232 = .ok (.iload_n 3, 1) := by decide +kernel
theorem dL_law_1233 : decode cL_law 1233 = .ok (.iconst 1, 1) := by decide +kernel
theorem dL_law_1234 : decode cL_law 1234 = .ok (.iadd, 1) := by decide +kernel
theorem dL_law_1235 : decode cL_law 1235 = .ok (.iaload, 1) := by decide +kernel
theorem dL_law_1236 : decode cL_law 1236 = .ok (.aload_n 0, 1) := by decide +kernel
theorem dL_law_1237 : decode cL_law 1237 = .ok (.iload_n 3, 1) := by decide +kernel
theorem dL_law_1238 : decode cL_law 1238 = .ok (.iconst 2, 1) := by decide +kernel
theorem dL_law_1239 : decode cL_law 1239 = .ok (.iadd, 1) := by decide +kernel
theorem dL_law_1240 : decode cL_law 1240 = .ok (.iaload, 1) := by decide +kernel
theorem dL_law_1241 : decode cL_law 1241 = .ok (.aload_n 0, 1) := by decide +kernel
theorem dL_law_1242 : decode cL_law 1242 = .ok (.iload_n 3, 1) := by decide +kernel
theorem dL_law_1243 : decode cL_law 1243 = .ok (.iconst 3, 1) := by decide +kernel
theorem dL_law_1244 : decode cL_law 1244 = .ok (.iadd, 1) := by decide +kernel
end
section
theorem dL_law_1245 : decode cL_law 1245 = .ok (.iaload, 1) := by decide +kernel
theorem dL_law_1246 : decode cL_law 1246 = .ok (.i2l, 1) := by decide +kernel
theorem dL_law_1247 : decode cL_law 1247 = .ok (.bipush 32, 2) := by decide +kernel
theorem dL_law_1249 : decode cL_law 1249 = .ok (.lshl, 1) := by decide +kernel
theorem dL_law_1250 : decode cL_law 1250 = .ok (.aload_n 0, 1) := by decide +kernel
theorem dL_law_1251 : decode cL_law 1251 = .ok (.iload_n 3, 1) := by decide +kernel
theorem dL_law_1252 : decode cL_law 1252 = .ok (.iconst 4, 1) := by decide +kernel
theorem dL_law_1253 : decode cL_law 1253 = .ok (.iadd, 1) := by decide +kernel
theorem dL_law_1254 : decode cL_law 1254 = .ok (.iaload, 1) := by decide +kernel
theorem dL_law_1255 : decode cL_law 1255 = .ok (.i2l, 1) := by decide +kernel
theorem dL_law_1256 : decode cL_law 1256 = .ok (.ldc2_w 13, 3) := by decide +kernel
theorem dL_law_1259 : decode cL_law 1259 = .ok (.land, 1) := by decide +kernel
theorem dL_law_1260 : decode cL_law 1260 = .ok (.lor, 1) := by decide +kernel
theorem dL_law_1261 : decode cL_law 1261 = .ok (.invokevirtual 116, 3) := by decide +kernel
theorem dL_law_1264 : decode cL_law 1264 = .ok (.if_icmp .eq 160, 3) := by decide +kernel
theorem dL_law_1267 : decode cL_law 1267 = .ok (.iconst 0, 1) := by decide +kernel
theorem dL_law_1268 : decode cL_law 1268 = .ok (.ireturn, 1) := by decide +kernel
theorem dL_law_1269 : decode cL_law 1269 = .ok (.aload_n 1, 1) := by decide +kernel
theorem dL_law_1270 : decode cL_law 1270 = .ok (.aload_n 0, 1) := by decide +kernel
theorem dL_law_1271 : decode cL_law 1271 = .ok (.iload_n 3, 1) := by decide +kernel
theorem dL_law_1272 : decode cL_law 1272 = .ok (.iconst 1, 1) := by decide +kernel
theorem dL_law_1273 : decode cL_law 1273 = .ok (.iadd, 1) := by decide +kernel
theorem dL_law_1274 : decode cL_law 1274 = .ok (.iaload, 1) := by decide +kernel
theorem dL_law_1275 : decode cL_law 1275 = .ok (.ifCond .eq 7, 3) := by decide +kernel
theorem dL_law_1278 : decode cL_law 1278 = .ok (.iconst 1, 1) := by decide +kernel
theorem dL_law_1279 : decode cL_law 1279 = .ok (.goto 4, 3) := by decide +kernel
theorem dL_law_1282 : decode cL_law 1282 = .ok (.iconst 0, 1) := by decide +kernel
theorem dL_law_1283 : decode cL_law 1283 = .ok (.aload_n 0, 1) := by decide +kernel
theorem dL_law_1284 : decode cL_law 1284 = .ok (.iload_n 3, 1) := by decide +kernel
theorem dL_law_1285 : decode cL_law 1285 = .ok (.iconst 2, 1) := by decide +kernel
theorem dL_law_1286 : decode cL_law 1286 = .ok (.iadd, 1) := by decide +kernel
theorem dL_law_1287 : decode cL_law 1287 = .ok (.iaload, 1) := by decide +kernel
theorem dL_law_1288 : decode cL_law 1288 = .ok (.i2l, 1) := by decide +kernel
theorem dL_law_1289 : decode cL_law 1289 = .ok (.bipush 32, 2) := by decide +kernel
theorem dL_law_1291 : decode cL_law 1291 = .ok (.lshl, 1) := by decide +kernel
theorem dL_law_1292 : decode cL_law 1292 = .ok (.aload_n 0, 1) := by decide +kernel
theorem dL_law_1293 : decode cL_law 1293 = .ok (.iload_n 3, 1) := by decide +kernel
theorem dL_law_1294 : decode cL_law 1294 = .ok (.iconst 3, 1) := by decide +kernel
theorem dL_law_1295 : decode cL_law 1295 = .ok (.iadd, 1) := by decide +kernel
theorem dL_law_1296 : decode cL_law 1296 = .ok (.iaload, 1) := by decide +kernel
theorem dL_law_1297 : decode cL_law 1297 = .ok (.i2l, 1) := by decide +kernel
theorem dL_law_1298 : decode cL_law 1298 = .ok (.ldc2_w 13, 3) := by decide +kernel
theorem dL_law_1301 : decode cL_law 1301 = .ok (.land, 1) := by decide +kernel
theorem dL_law_1302 : decode cL_law 1302 = .ok (.lor, 1) := by decide +kernel
theorem dL_law_1303 : decode cL_law 1303 = .ok (.aload_n 0, 1) := by decide +kernel
theorem dL_law_1304 : decode cL_law 1304 = .ok (.iload_n 3, 1) := by decide +kernel
theorem dL_law_1305 : decode cL_law 1305 = .ok (.iconst 4, 1) := by decide +kernel
theorem dL_law_1306 : decode cL_law 1306 = .ok (.iadd, 1) := by decide +kernel
theorem dL_law_1307 : decode cL_law 1307 = .ok (.iaload, 1) := by decide +kernel
theorem dL_law_1308 : decode cL_law 1308 = .ok (.i2l, 1) := by decide +kernel
theorem dL_law_1309 : decode cL_law 1309 = .ok (.bipush 32, 2) := by decide +kernel
theorem dL_law_1311 : decode cL_law 1311 = .ok (.lshl, 1) := by decide +kernel
theorem dL_law_1312 : decode cL_law 1312 = .ok (.aload_n 0, 1) := by decide +kernel
theorem dL_law_1313 : decode cL_law 1313 = .ok (.iload_n 3, 1) := by decide +kernel
theorem dL_law_1314 : decode cL_law 1314 = .ok (.iconst 5, 1) := by decide +kernel
theorem dL_law_1315 : decode cL_law 1315 = .ok (.iadd, 1) := by decide +kernel
theorem dL_law_1316 : decode cL_law 1316 = .ok (.iaload, 1) := by decide +kernel
theorem dL_law_1317 : decode cL_law 1317 = .ok (.i2l, 1) := by decide +kernel
theorem dL_law_1318 : decode cL_law 1318 = .ok (.ldc2_w 13, 3) := by decide +kernel
theorem dL_law_1321 : decode cL_law 1321 = .ok (.land, 1) := by decide +kernel
theorem dL_law_1322 : decode cL_law 1322 = .ok (.lor, 1) := by decide +kernel
theorem dL_law_1323 : decode cL_law 1323 = .ok (.invokevirtual 117, 3) := by decide +kernel
theorem dL_law_1326 : decode cL_law 1326 = .ok (.aload_n 2, 1) := by decide +kernel
theorem dL_law_1327 : decode cL_law 1327 = .ok (.aload_n 0, 1) := by decide +kernel
theorem dL_law_1328 : decode cL_law 1328 = .ok (.iload_n 3, 1) := by decide +kernel
theorem dL_law_1329 : decode cL_law 1329 = .ok (.iconst 1, 1) := by decide +kernel
theorem dL_law_1330 : decode cL_law 1330 = .ok (.iadd, 1) := by decide +kernel
theorem dL_law_1331 : decode cL_law 1331 = .ok (.iaload, 1) := by decide +kernel
theorem dL_law_1332 : decode cL_law 1332 = .ok (.ifCond .eq 7, 3) := by decide +kernel
theorem dL_law_1335 : decode cL_law 1335 = .ok (.iconst 1, 1) := by decide +kernel
theorem dL_law_1336 : decode cL_law 1336 = .ok (.goto 4, 3) := by decide +kernel
theorem dL_law_1339 : decode cL_law 1339 = .ok (.iconst 0, 1) := by decide +kernel
theorem dL_law_1340 : decode cL_law 1340 = .ok (.aload_n 0, 1) := by decide +kernel
theorem dL_law_1341 : decode cL_law 1341 = .ok (.iload_n 3, 1) := by decide +kernel
theorem dL_law_1342 : decode cL_law 1342 = .ok (.iconst 2, 1) := by decide +kernel
theorem dL_law_1343 : decode cL_law 1343 = .ok (.iadd, 1) := by decide +kernel
theorem dL_law_1344 : decode cL_law 1344 = .ok (.iaload, 1) := by decide +kernel
theorem dL_law_1345 : decode cL_law 1345 = .ok (.i2l, 1) := by decide +kernel
theorem dL_law_1346 : decode cL_law 1346 = .ok (.bipush 32, 2) := by decide +kernel
theorem dL_law_1348 : decode cL_law 1348 = .ok (.lshl, 1) := by decide +kernel
theorem dL_law_1349 : decode cL_law 1349 = .ok (.aload_n 0, 1) := by decide +kernel
theorem dL_law_1350 : decode cL_law 1350 = .ok (.iload_n 3, 1) := by decide +kernel
theorem dL_law_1351 : decode cL_law 1351 = .ok (.iconst 3, 1) := by decide +kernel
theorem dL_law_1352 : decode cL_law 1352 = .ok (.iadd, 1) := by decide +kernel
theorem dL_law_1353 : decode cL_law 1353 = .ok (.iaload, 1) := by decide +kernel
theorem dL_law_1354 : decode cL_law 1354 = .ok (.i2l, 1) := by decide +kernel
theorem dL_law_1355 : decode cL_law 1355 = .ok (.ldc2_w 13, 3) := by decide +kernel
theorem dL_law_1358 : decode cL_law 1358 = .ok (.land, 1) := by decide +kernel
theorem dL_law_1359 : decode cL_law 1359 = .ok (.lor, 1) := by decide +kernel
theorem dL_law_1360 : decode cL_law 1360 = .ok (.aload_n 0, 1) := by decide +kernel
theorem dL_law_1361 : decode cL_law 1361 = .ok (.iload_n 3, 1) := by decide +kernel
theorem dL_law_1362 : decode cL_law 1362 = .ok (.iconst 4, 1) := by decide +kernel
theorem dL_law_1363 : decode cL_law 1363 = .ok (.iadd, 1) := by decide +kernel
theorem dL_law_1364 : decode cL_law 1364 = .ok (.iaload, 1) := by decide +kernel
theorem dL_law_1365 : decode cL_law 1365 = .ok (.i2l, 1) := by decide +kernel
theorem dL_law_1366 : decode cL_law 1366 = .ok (.bipush 32, 2) := by decide +kernel
theorem dL_law_1368 : decode cL_law 1368 = .ok (.lshl, 1) := by decide +kernel
theorem dL_law_1369 : decode cL_law 1369 = .ok (.aload_n 0, 1) := by decide +kernel
theorem dL_law_1370 : decode cL_law 1370 = .ok (.iload_n 3, 1) := by decide +kernel
theorem dL_law_1371 : decode cL_law 1371 = .ok (.iconst 5, 1) := by decide +kernel
theorem dL_law_1372 : decode cL_law 1372 = .ok (.iadd, 1) := by decide +kernel
theorem dL_law_1373 : decode cL_law 1373 = .ok (.iaload, 1) := by decide +kernel
theorem dL_law_1374 : decode cL_law 1374 = .ok (.i2l, 1) := by decide +kernel
theorem dL_law_1375 : decode cL_law 1375 = .ok (.ldc2_w 13, 3) := by decide +kernel
theorem dL_law_1378 : decode cL_law 1378 = .ok (.land, 1) := by decide +kernel
theorem dL_law_1379 : decode cL_law 1379 = .ok (.lor, 1) := by decide +kernel
theorem dL_law_1380 : decode cL_law 1380 = .ok (.invokevirtual 121, 3) := by decide +kernel
theorem dL_law_1383 : decode cL_law 1383 = .ok (.if_icmp .eq 41, 3) := by decide +kernel
theorem dL_law_1386 : decode cL_law 1386 = .ok (.iconst 0, 1) := by decide +kernel
theorem dL_law_1387 : decode cL_law 1387 = .ok (.ireturn, 1) := by decide +kernel
theorem dL_law_1388 : decode cL_law 1388 = .ok (.aload_n 1, 1) := by decide +kernel
theorem dL_law_1389 : decode cL_law 1389 = .ok (.invokevirtual 122, 3) := by decide +kernel
theorem dL_law_1392 : decode cL_law 1392 = .ok (.aload_n 2, 1) := by decide +kernel
theorem dL_law_1393 : decode cL_law 1393 = .ok (.invokevirtual 126, 3) := by decide +kernel
theorem dL_law_1396 : decode cL_law 1396 = .ok (.if_icmp .eq 28, 3) := by decide +kernel
theorem dL_law_1399 : decode cL_law 1399 = .ok (.iconst 0, 1) := by decide +kernel
theorem dL_law_1400 : decode cL_law 1400 = .ok (.ireturn, 1) := by decide +kernel
theorem dL_law_1401 : decode cL_law 1401 = .ok (.aload_n 1, 1) := by decide +kernel
theorem dL_law_1402 : decode cL_law 1402 = .ok (.aload_n 0, 1) := by decide +kernel
theorem dL_law_1403 : decode cL_law 1403 = .ok (.iload_n 3, 1) := by decide +kernel
theorem dL_law_1404 : decode cL_law 1404 = .ok (.iconst 1, 1) := by decide +kernel
theorem dL_law_1405 : decode cL_law 1405 = .ok (.iadd, 1) := by decide +kernel
theorem dL_law_1406 : decode cL_law 1406 = .ok (.iaload, 1) := by decide +kernel
theorem dL_law_1407 : decode cL_law 1407 = .ok (.invokevirtual 127, 3) := by decide +kernel
theorem dL_law_1410 : decode cL_law 1410 = .ok (.aload_n 2, 1) := by decide +kernel
theorem dL_law_1411 : decode cL_law 1411 = .ok (.aload_n 0, 1) := by decide +kernel
theorem dL_law_1412 : decode cL_law 1412 = .ok (.iload_n 3, 1) := by decide +kernel
theorem dL_law_1413 : decode cL_law 1413 = .ok (.iconst 1, 1) := by decide +kernel
theorem dL_law_1414 : decode cL_law 1414 = .ok (.iadd, 1) := by decide +kernel
theorem dL_law_1415 : decode cL_law 1415 = .ok (.iaload, 1) := by decide +kernel
theorem dL_law_1416 : decode cL_law 1416 = .ok (.invokevirtual 130, 3) := by decide +kernel
theorem dL_law_1419 : decode cL_law 1419 = .ok (.if_icmp .eq 5, 3) := by decide +kernel
theorem dL_law_1422 : decode cL_law 1422 = .ok (.iconst 0, 1) := by decide +kernel
theorem dL_law_1423 : decode cL_law 1423 = .ok (.ireturn, 1) := by decide +kernel
theorem dL_law_1424 : decode cL_law 1424 = .ok (.iinc 3 6, 3) := by decide +kernel
theorem dL_law_1427 : decode cL_law 1427 = .ok (.goto (-1409), 3) := by decide +kernel
theorem dL_law_1430 : decode cL_law 1430 = .ok (.iconst 1, 1) := by decide +kernel
theorem dL_law_1431 : decode cL_law 1431 = .ok (.ireturn, 1) := by decide +kernel
end
section
theorem zz_0 : True := trivial
end
