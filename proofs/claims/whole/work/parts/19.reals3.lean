def jX4_quotient_y35 (a0 : Int32) (a1 : Int64) (a3 : Int64) (y1 : Int32) (y3 : Int32) (y5 : Int32) (y7 : Int64) (y8 : Int64) (y11 : Int32) (y12 : Int32) (y13 : Int64) (y14 : Int64) (y15 : Int64) (y16 : Int64) (y17 : Int64) (y18 : Int64) (y19 : Int64) (y20 : Int64) (y21 : Int64) (y22 : Int64) (y23 : Int64) (y24 : Int64) (y25 : Int64) (y26 : Int64) (y27 : Int64) (y28 : Int64) (y29 : Int64) (y30 : Int64) (y31 : Int64) (y32 : Int64) (y33 : Int64) (y34 : Int64) (y35 : Int32) : Int64 := (jX4_nearest a0 y5 (jX4_withMore y33 y34) (y35 - (60 : Int32)))
def jX4_quotient_y34 (a0 : Int32) (a1 : Int64) (a3 : Int64) (y1 : Int32) (y3 : Int32) (y5 : Int32) (y7 : Int64) (y8 : Int64) (y11 : Int32) (y12 : Int32) (y13 : Int64) (y14 : Int64) (y15 : Int64) (y16 : Int64) (y17 : Int64) (y18 : Int64) (y19 : Int64) (y20 : Int64) (y21 : Int64) (y22 : Int64) (y23 : Int64) (y24 : Int64) (y25 : Int64) (y26 : Int64) (y27 : Int64) (y28 : Int64) (y29 : Int64) (y30 : Int64) (y31 : Int64) (y32 : Int64) (y33 : Int64) (y34 : Int64) : Int64 := (jX4_quotient_y35 a0 a1 a3 y1 y3 y5 y7 y8 y11 y12 y13 y14 y15 y16 y17 y18 y19 y20 y21 y22 y23 y24 y25 y26 y27 y28 y29 y30 y31 y32 y33 y34 ((((jX4_exponent a0 a1) - y11) - (jX4_exponent a0 a3)) + y12))
def jX4_quotient_y33 (a0 : Int32) (a1 : Int64) (a3 : Int64) (y1 : Int32) (y3 : Int32) (y5 : Int32) (y7 : Int64) (y8 : Int64) (y11 : Int32) (y12 : Int32) (y13 : Int64) (y14 : Int64) (y15 : Int64) (y16 : Int64) (y17 : Int64) (y18 : Int64) (y19 : Int64) (y20 : Int64) (y21 : Int64) (y22 : Int64) (y23 : Int64) (y24 : Int64) (y25 : Int64) (y26 : Int64) (y27 : Int64) (y28 : Int64) (y29 : Int64) (y30 : Int64) (y31 : Int64) (y32 : Int64) (y33 : Int64) : Int64 := (jX4_quotient_y34 a0 a1 a3 y1 y3 y5 y7 y8 y11 y12 y13 y14 y15 y16 y17 y18 y19 y20 y21 y22 y23 y24 y25 y26 y27 y28 y29 y30 y31 y32 y33 (y32 - y32 / y14 * y14))
def jX4_quotient_y32 (a0 : Int32) (a1 : Int64) (a3 : Int64) (y1 : Int32) (y3 : Int32) (y5 : Int32) (y7 : Int64) (y8 : Int64) (y11 : Int32) (y12 : Int32) (y13 : Int64) (y14 : Int64) (y15 : Int64) (y16 : Int64) (y17 : Int64) (y18 : Int64) (y19 : Int64) (y20 : Int64) (y21 : Int64) (y22 : Int64) (y23 : Int64) (y24 : Int64) (y25 : Int64) (y26 : Int64) (y27 : Int64) (y28 : Int64) (y29 : Int64) (y30 : Int64) (y31 : Int64) (y32 : Int64) : Int64 := (jX4_quotient_y33 a0 a1 a3 y1 y3 y5 y7 y8 y11 y12 y13 y14 y15 y16 y17 y18 y19 y20 y21 y22 y23 y24 y25 y26 y27 y28 y29 y30 y31 y32 ((y30 <<< ((10 : Int32).toInt64 &&& 63)) ||| (y32 / y14)))
def jX4_quotient_y31 (a0 : Int32) (a1 : Int64) (a3 : Int64) (y1 : Int32) (y3 : Int32) (y5 : Int32) (y7 : Int64) (y8 : Int64) (y11 : Int32) (y12 : Int32) (y13 : Int64) (y14 : Int64) (y15 : Int64) (y16 : Int64) (y17 : Int64) (y18 : Int64) (y19 : Int64) (y20 : Int64) (y21 : Int64) (y22 : Int64) (y23 : Int64) (y24 : Int64) (y25 : Int64) (y26 : Int64) (y27 : Int64) (y28 : Int64) (y29 : Int64) (y30 : Int64) (y31 : Int64) : Int64 := (jX4_quotient_y32 a0 a1 a3 y1 y3 y5 y7 y8 y11 y12 y13 y14 y15 y16 y17 y18 y19 y20 y21 y22 y23 y24 y25 y26 y27 y28 y29 y30 y31 (y31 <<< ((10 : Int32).toInt64 &&& 63)))
def jX4_quotient_y30 (a0 : Int32) (a1 : Int64) (a3 : Int64) (y1 : Int32) (y3 : Int32) (y5 : Int32) (y7 : Int64) (y8 : Int64) (y11 : Int32) (y12 : Int32) (y13 : Int64) (y14 : Int64) (y15 : Int64) (y16 : Int64) (y17 : Int64) (y18 : Int64) (y19 : Int64) (y20 : Int64) (y21 : Int64) (y22 : Int64) (y23 : Int64) (y24 : Int64) (y25 : Int64) (y26 : Int64) (y27 : Int64) (y28 : Int64) (y29 : Int64) (y30 : Int64) : Int64 := (jX4_quotient_y31 a0 a1 a3 y1 y3 y5 y7 y8 y11 y12 y13 y14 y15 y16 y17 y18 y19 y20 y21 y22 y23 y24 y25 y26 y27 y28 y29 y30 (y29 - y29 / y14 * y14))
def jX4_quotient_y29 (a0 : Int32) (a1 : Int64) (a3 : Int64) (y1 : Int32) (y3 : Int32) (y5 : Int32) (y7 : Int64) (y8 : Int64) (y11 : Int32) (y12 : Int32) (y13 : Int64) (y14 : Int64) (y15 : Int64) (y16 : Int64) (y17 : Int64) (y18 : Int64) (y19 : Int64) (y20 : Int64) (y21 : Int64) (y22 : Int64) (y23 : Int64) (y24 : Int64) (y25 : Int64) (y26 : Int64) (y27 : Int64) (y28 : Int64) (y29 : Int64) : Int64 := (jX4_quotient_y30 a0 a1 a3 y1 y3 y5 y7 y8 y11 y12 y13 y14 y15 y16 y17 y18 y19 y20 y21 y22 y23 y24 y25 y26 y27 y28 y29 ((y27 <<< ((10 : Int32).toInt64 &&& 63)) ||| (y29 / y14)))
def jX4_quotient_y28 (a0 : Int32) (a1 : Int64) (a3 : Int64) (y1 : Int32) (y3 : Int32) (y5 : Int32) (y7 : Int64) (y8 : Int64) (y11 : Int32) (y12 : Int32) (y13 : Int64) (y14 : Int64) (y15 : Int64) (y16 : Int64) (y17 : Int64) (y18 : Int64) (y19 : Int64) (y20 : Int64) (y21 : Int64) (y22 : Int64) (y23 : Int64) (y24 : Int64) (y25 : Int64) (y26 : Int64) (y27 : Int64) (y28 : Int64) : Int64 := (jX4_quotient_y29 a0 a1 a3 y1 y3 y5 y7 y8 y11 y12 y13 y14 y15 y16 y17 y18 y19 y20 y21 y22 y23 y24 y25 y26 y27 y28 (y28 <<< ((10 : Int32).toInt64 &&& 63)))
def jX4_quotient_y27 (a0 : Int32) (a1 : Int64) (a3 : Int64) (y1 : Int32) (y3 : Int32) (y5 : Int32) (y7 : Int64) (y8 : Int64) (y11 : Int32) (y12 : Int32) (y13 : Int64) (y14 : Int64) (y15 : Int64) (y16 : Int64) (y17 : Int64) (y18 : Int64) (y19 : Int64) (y20 : Int64) (y21 : Int64) (y22 : Int64) (y23 : Int64) (y24 : Int64) (y25 : Int64) (y26 : Int64) (y27 : Int64) : Int64 := (jX4_quotient_y28 a0 a1 a3 y1 y3 y5 y7 y8 y11 y12 y13 y14 y15 y16 y17 y18 y19 y20 y21 y22 y23 y24 y25 y26 y27 (y26 - y26 / y14 * y14))
def jX4_quotient_y26 (a0 : Int32) (a1 : Int64) (a3 : Int64) (y1 : Int32) (y3 : Int32) (y5 : Int32) (y7 : Int64) (y8 : Int64) (y11 : Int32) (y12 : Int32) (y13 : Int64) (y14 : Int64) (y15 : Int64) (y16 : Int64) (y17 : Int64) (y18 : Int64) (y19 : Int64) (y20 : Int64) (y21 : Int64) (y22 : Int64) (y23 : Int64) (y24 : Int64) (y25 : Int64) (y26 : Int64) : Int64 := (jX4_quotient_y27 a0 a1 a3 y1 y3 y5 y7 y8 y11 y12 y13 y14 y15 y16 y17 y18 y19 y20 y21 y22 y23 y24 y25 y26 ((y24 <<< ((10 : Int32).toInt64 &&& 63)) ||| (y26 / y14)))
def jX4_quotient_y25 (a0 : Int32) (a1 : Int64) (a3 : Int64) (y1 : Int32) (y3 : Int32) (y5 : Int32) (y7 : Int64) (y8 : Int64) (y11 : Int32) (y12 : Int32) (y13 : Int64) (y14 : Int64) (y15 : Int64) (y16 : Int64) (y17 : Int64) (y18 : Int64) (y19 : Int64) (y20 : Int64) (y21 : Int64) (y22 : Int64) (y23 : Int64) (y24 : Int64) (y25 : Int64) : Int64 := (jX4_quotient_y26 a0 a1 a3 y1 y3 y5 y7 y8 y11 y12 y13 y14 y15 y16 y17 y18 y19 y20 y21 y22 y23 y24 y25 (y25 <<< ((10 : Int32).toInt64 &&& 63)))
def jX4_quotient_y24 (a0 : Int32) (a1 : Int64) (a3 : Int64) (y1 : Int32) (y3 : Int32) (y5 : Int32) (y7 : Int64) (y8 : Int64) (y11 : Int32) (y12 : Int32) (y13 : Int64) (y14 : Int64) (y15 : Int64) (y16 : Int64) (y17 : Int64) (y18 : Int64) (y19 : Int64) (y20 : Int64) (y21 : Int64) (y22 : Int64) (y23 : Int64) (y24 : Int64) : Int64 := (jX4_quotient_y25 a0 a1 a3 y1 y3 y5 y7 y8 y11 y12 y13 y14 y15 y16 y17 y18 y19 y20 y21 y22 y23 y24 (y23 - y23 / y14 * y14))
def jX4_quotient_y23 (a0 : Int32) (a1 : Int64) (a3 : Int64) (y1 : Int32) (y3 : Int32) (y5 : Int32) (y7 : Int64) (y8 : Int64) (y11 : Int32) (y12 : Int32) (y13 : Int64) (y14 : Int64) (y15 : Int64) (y16 : Int64) (y17 : Int64) (y18 : Int64) (y19 : Int64) (y20 : Int64) (y21 : Int64) (y22 : Int64) (y23 : Int64) : Int64 := (jX4_quotient_y24 a0 a1 a3 y1 y3 y5 y7 y8 y11 y12 y13 y14 y15 y16 y17 y18 y19 y20 y21 y22 y23 ((y21 <<< ((10 : Int32).toInt64 &&& 63)) ||| (y23 / y14)))
def jX4_quotient_y22 (a0 : Int32) (a1 : Int64) (a3 : Int64) (y1 : Int32) (y3 : Int32) (y5 : Int32) (y7 : Int64) (y8 : Int64) (y11 : Int32) (y12 : Int32) (y13 : Int64) (y14 : Int64) (y15 : Int64) (y16 : Int64) (y17 : Int64) (y18 : Int64) (y19 : Int64) (y20 : Int64) (y21 : Int64) (y22 : Int64) : Int64 := (jX4_quotient_y23 a0 a1 a3 y1 y3 y5 y7 y8 y11 y12 y13 y14 y15 y16 y17 y18 y19 y20 y21 y22 (y22 <<< ((10 : Int32).toInt64 &&& 63)))
def jX4_quotient_y21 (a0 : Int32) (a1 : Int64) (a3 : Int64) (y1 : Int32) (y3 : Int32) (y5 : Int32) (y7 : Int64) (y8 : Int64) (y11 : Int32) (y12 : Int32) (y13 : Int64) (y14 : Int64) (y15 : Int64) (y16 : Int64) (y17 : Int64) (y18 : Int64) (y19 : Int64) (y20 : Int64) (y21 : Int64) : Int64 := (jX4_quotient_y22 a0 a1 a3 y1 y3 y5 y7 y8 y11 y12 y13 y14 y15 y16 y17 y18 y19 y20 y21 (y20 - y20 / y14 * y14))
def jX4_quotient_y20 (a0 : Int32) (a1 : Int64) (a3 : Int64) (y1 : Int32) (y3 : Int32) (y5 : Int32) (y7 : Int64) (y8 : Int64) (y11 : Int32) (y12 : Int32) (y13 : Int64) (y14 : Int64) (y15 : Int64) (y16 : Int64) (y17 : Int64) (y18 : Int64) (y19 : Int64) (y20 : Int64) : Int64 := (jX4_quotient_y21 a0 a1 a3 y1 y3 y5 y7 y8 y11 y12 y13 y14 y15 y16 y17 y18 y19 y20 ((y18 <<< ((10 : Int32).toInt64 &&& 63)) ||| (y20 / y14)))
def jX4_quotient_y19 (a0 : Int32) (a1 : Int64) (a3 : Int64) (y1 : Int32) (y3 : Int32) (y5 : Int32) (y7 : Int64) (y8 : Int64) (y11 : Int32) (y12 : Int32) (y13 : Int64) (y14 : Int64) (y15 : Int64) (y16 : Int64) (y17 : Int64) (y18 : Int64) (y19 : Int64) : Int64 := (jX4_quotient_y20 a0 a1 a3 y1 y3 y5 y7 y8 y11 y12 y13 y14 y15 y16 y17 y18 y19 (y19 <<< ((10 : Int32).toInt64 &&& 63)))
def jX4_quotient_y18 (a0 : Int32) (a1 : Int64) (a3 : Int64) (y1 : Int32) (y3 : Int32) (y5 : Int32) (y7 : Int64) (y8 : Int64) (y11 : Int32) (y12 : Int32) (y13 : Int64) (y14 : Int64) (y15 : Int64) (y16 : Int64) (y17 : Int64) (y18 : Int64) : Int64 := (jX4_quotient_y19 a0 a1 a3 y1 y3 y5 y7 y8 y11 y12 y13 y14 y15 y16 y17 y18 (y17 - y17 / y14 * y14))
def jX4_quotient_y17 (a0 : Int32) (a1 : Int64) (a3 : Int64) (y1 : Int32) (y3 : Int32) (y5 : Int32) (y7 : Int64) (y8 : Int64) (y11 : Int32) (y12 : Int32) (y13 : Int64) (y14 : Int64) (y15 : Int64) (y16 : Int64) (y17 : Int64) : Int64 := (jX4_quotient_y18 a0 a1 a3 y1 y3 y5 y7 y8 y11 y12 y13 y14 y15 y16 y17 ((y15 <<< ((10 : Int32).toInt64 &&& 63)) ||| (y17 / y14)))
def jX4_quotient_y16 (a0 : Int32) (a1 : Int64) (a3 : Int64) (y1 : Int32) (y3 : Int32) (y5 : Int32) (y7 : Int64) (y8 : Int64) (y11 : Int32) (y12 : Int32) (y13 : Int64) (y14 : Int64) (y15 : Int64) (y16 : Int64) : Int64 := (jX4_quotient_y17 a0 a1 a3 y1 y3 y5 y7 y8 y11 y12 y13 y14 y15 y16 (y16 <<< ((10 : Int32).toInt64 &&& 63)))
def jX4_quotient_y15 (a0 : Int32) (a1 : Int64) (a3 : Int64) (y1 : Int32) (y3 : Int32) (y5 : Int32) (y7 : Int64) (y8 : Int64) (y11 : Int32) (y12 : Int32) (y13 : Int64) (y14 : Int64) (y15 : Int64) : Int64 := (jX4_quotient_y16 a0 a1 a3 y1 y3 y5 y7 y8 y11 y12 y13 y14 y15 (y13 - y13 / y14 * y14))
def jX4_quotient_y14 (a0 : Int32) (a1 : Int64) (a3 : Int64) (y1 : Int32) (y3 : Int32) (y5 : Int32) (y7 : Int64) (y8 : Int64) (y11 : Int32) (y12 : Int32) (y13 : Int64) (y14 : Int64) : Int64 := (jX4_quotient_y15 a0 a1 a3 y1 y3 y5 y7 y8 y11 y12 y13 y14 (y13 / y14))
def jX4_quotient_y13 (a0 : Int32) (a1 : Int64) (a3 : Int64) (y1 : Int32) (y3 : Int32) (y5 : Int32) (y7 : Int64) (y8 : Int64) (y11 : Int32) (y12 : Int32) (y13 : Int64) : Int64 := (jX4_quotient_y14 a0 a1 a3 y1 y3 y5 y7 y8 y11 y12 y13 (y8 <<< (y12.toInt64 &&& 63)))
def jX4_quotient_y12 (a0 : Int32) (a1 : Int64) (a3 : Int64) (y1 : Int32) (y3 : Int32) (y5 : Int32) (y7 : Int64) (y8 : Int64) (y11 : Int32) (y12 : Int32) : Int64 := (jX4_quotient_y13 a0 a1 a3 y1 y3 y5 y7 y8 y11 y12 (y7 <<< (y11.toInt64 &&& 63)))
def jX4_quotient_y11 (a0 : Int32) (a1 : Int64) (a3 : Int64) (y1 : Int32) (y3 : Int32) (y5 : Int32) (y7 : Int64) (y8 : Int64) (y11 : Int32) : Int64 := (jX4_quotient_y12 a0 a1 a3 y1 y3 y5 y7 y8 y11 ((53 : Int32) - (jX4_lengthOf y8)))
def jX4_quotient_y8 (a0 : Int32) (a1 : Int64) (a3 : Int64) (y1 : Int32) (y3 : Int32) (y5 : Int32) (y7 : Int64) (y8 : Int64) : Int64 := (if y7 = (0 : Int64) then (jX4_signed a0 y5 (0 : Int64)) else (if y8 = (0 : Int64) then (jX4_signed a0 y5 (0 : Int64)) else (jX4_quotient_y11 a0 a1 a3 y1 y3 y5 y7 y8 ((53 : Int32) - (jX4_lengthOf y7)))))
def jX4_quotient_y7 (a0 : Int32) (a1 : Int64) (a3 : Int64) (y1 : Int32) (y3 : Int32) (y5 : Int32) (y7 : Int64) : Int64 := (jX4_quotient_y8 a0 a1 a3 y1 y3 y5 y7 (jX4_mantissa a0 a3))
def jX4_quotient_y5 (a0 : Int32) (a1 : Int64) (a3 : Int64) (y1 : Int32) (y3 : Int32) (y5 : Int32) : Int64 := (jX4_quotient_y7 a0 a1 a3 y1 y3 y5 (jX4_mantissa a0 a1))
def jX4_quotient_y3 (a0 : Int32) (a1 : Int64) (a3 : Int64) (y1 : Int32) (y3 : Int32) : Int64 := (jX4_quotient_y5 a0 a1 a3 y1 y3 (if y1 = y3 then (0 : Int32) else (1 : Int32)))
def jX4_quotient_y1 (a0 : Int32) (a1 : Int64) (a3 : Int64) (y1 : Int32) : Int64 := (jX4_quotient_y3 a0 a1 a3 y1 (if (0 : Int64) ≤ a3 then (0 : Int32) else (1 : Int32)))
def jX4_quotient (a0 : Int32) (a1 : Int64) (a3 : Int64) : Int64 := (jX4_quotient_y1 a0 a1 a3 (if (0 : Int64) ≤ a1 then (0 : Int32) else (1 : Int32)))
set_option maxHeartbeats 4000000 in
set_option maxRecDepth 100000 in
theorem qX4_quotient (l : Launch) (a0 : Int32) (a1 : Int64) (a3 : Int64) : Met l yX4_quotient wsX4_quotient ({ frames := 4, cells := 0, slots := 0, locals := 96 }) (fun v _ => v = ([.int a0, .long a1, .long a3] : List Value).toArray) (vp_Sl (fun r => r = jX4_quotient a0 a1 a3)) 0 0 (fun _ => False) := by
  refine Met.ofW (cc := cX4_quotient) (maxL := 17) (ret := some .long) (by decide) rfl ?_
  intro p e s m args below meth c s₁ B hml hv
  subst hv
  have hx := B.exec
  have hb := B.bytes
  have hr := B.returns
  have hts := atoms_spec (ws := wsX4_quotient) B.pre
  have hown : s.vm.findClass RX4 = some m.cls := findClass_of_methodNamed B.named
  have hlocks := B.notSynchronized
  obtain ⟨JR, hE⟩ : ∃ q, jX4_quotient a0 a1 a3 = q := ⟨_, rfl⟩
  have hJ := hE
  rw [jX4_quotient] at hJ
  have hl := lv_entry ([.int a0, .long a1, .long a3]) (n := 17) (Nat.le_of_ble_eq_true rfl)
  rw [lg_entry_eq]
  generalize (lg_sl ([.int a0, .long a1, .long a3]) ++ List.replicate (17 - (lg_sl ([.int a0, .long a1, .long a3])).length) Slot.unset).toArray = ls at hl ⊢
  have hl : lv_has ls 17 [(0, .int a0), (1, .long a1), (3, .long a3)] := hl
  refine lv_lload_n hx hb dX4_quotient_0 rfl (lv_at hl 1 rfl) ?_
  refine lv_lconst (v := (0 : Int64)) hx hb dX4_quotient_1 (by decide) ?_
  refine W.lcmp hx hb dX4_quotient_2 ?_
  refine jn_i (J := 11) (ls := ls) (v := (if (0 : Int64) ≤ a1 then (0 : Int32) else (1 : Int32))) (rest := []) ?_ (fun y1 ey1 => ?_)
  · intro hj
    refine lv_if_ge (tgt := 10) hx hb dX4_quotient_3 (by decide) (fun c2 => ?_) (fun c2 => ?_)
    · have c2 := (lg_cmp_ge _ _).mp c2
      rw [if_pos c2] at hj
      refine lv_iconst (v := (0 : Int32)) hx hb dX4_quotient_10 (by decide) ?_
      exact hj
    · have c2 := mt (lg_cmp_ge _ _).mpr c2
      rw [if_neg c2] at hj
      refine lv_iconst (v := (1 : Int32)) hx hb dX4_quotient_6 (by decide) ?_
      refine lv_goto (tgt := 11) hx hb dX4_quotient_7 (by decide) ?_
      exact hj
  rw [← ey1] at hJ
  rw [jX4_quotient_y1] at hJ
  refine lv_lload_n hx hb dX4_quotient_11 rfl (lv_at hl 2 rfl) ?_
  refine lv_lconst (v := (0 : Int64)) hx hb dX4_quotient_12 (by decide) ?_
  refine W.lcmp hx hb dX4_quotient_13 ?_
  refine jn_i (J := 22) (ls := ls) (v := (if (0 : Int64) ≤ a3 then (0 : Int32) else (1 : Int32))) (rest := [.int y1]) ?_ (fun y3 ey3 => ?_)
  · intro hj
    refine lv_if_ge (tgt := 21) hx hb dX4_quotient_14 (by decide) (fun c4 => ?_) (fun c4 => ?_)
    · have c4 := (lg_cmp_ge _ _).mp c4
      rw [if_pos c4] at hj
      refine lv_iconst (v := (0 : Int32)) hx hb dX4_quotient_21 (by decide) ?_
      exact hj
    · have c4 := mt (lg_cmp_ge _ _).mpr c4
      rw [if_neg c4] at hj
      refine lv_iconst (v := (1 : Int32)) hx hb dX4_quotient_17 (by decide) ?_
      refine lv_goto (tgt := 22) hx hb dX4_quotient_18 (by decide) ?_
      exact hj
  rw [← ey3] at hJ
  rw [jX4_quotient_y3] at hJ
  refine jn_i (J := 30) (ls := ls) (v := (if y1 = y3 then (0 : Int32) else (1 : Int32))) (rest := []) ?_ (fun y5 ey5 => ?_)
  · intro hj
    refine lv_icmp_eq (tgt := 29) hx hb dX4_quotient_22 (by decide) (fun c6 => ?_) (fun c6 => ?_)
    · skip
      rw [if_pos c6] at hj
      refine lv_iconst (v := (0 : Int32)) hx hb dX4_quotient_29 (by decide) ?_
      exact hj
    · skip
      rw [if_neg c6] at hj
      refine lv_iconst (v := (1 : Int32)) hx hb dX4_quotient_25 (by decide) ?_
      refine lv_goto (tgt := 30) hx hb dX4_quotient_26 (by decide) ?_
      exact hj
  rw [← ey5] at hJ
  rw [jX4_quotient_y5] at hJ
  refine lv_istore (lv' := [(5, .int y5), (0, .int a0), (1, .long a1), (3, .long a3)]) hx hb dX4_quotient_30 hl (by decide) rfl (fun ls hl => ?_)
  refine lv_iload_n hx hb dX4_quotient_32 rfl (lv_at hl 1 rfl) ?_
  refine lv_lload_n hx hb dX4_quotient_33 rfl (lv_at hl 2 rfl) ?_
  refine vp_callSl (W.runS (As := [.int a0, .long a1]) (rest := []) ⟨hx, hb, hml, hown, hts⟩ (qX4_mantissa l a0 a1) (va_cwS 2 hts gX4_quotient_X4_mantissa rfl rfl rfl (by decide +kernel) ⟨Nat.le_of_ble_eq_true rfl, Nat.le_of_ble_eq_true rfl⟩) ⟨fun _ _ _ _ q => q, fun U hU hW => rfl⟩ rfl rfl hl.1 rfl (lv_room (Nat.le_of_ble_eq_true rfl)) dX4_quotient_34 ⟨Nat.le_of_ble_eq_true rfl, Nat.le_of_ble_eq_true rfl⟩) (fun r hr => ?_)
  subst hr
  refine lv_topl (fun y7 ey7 => ?_)
  rw [← ey7] at hJ
  rw [jX4_quotient_y7] at hJ
  refine lv_lstore (lv' := [(6, .long y7), (5, .int y5), (0, .int a0), (1, .long a1), (3, .long a3)]) hx hb dX4_quotient_37 hl (by decide) rfl (fun ls hl => ?_)
  refine lv_iload_n hx hb dX4_quotient_39 rfl (lv_at hl 2 rfl) ?_
  refine lv_lload_n hx hb dX4_quotient_40 rfl (lv_at hl 4 rfl) ?_
  refine vp_callSl (W.runS (As := [.int a0, .long a3]) (rest := []) ⟨hx, hb, hml, hown, hts⟩ (qX4_mantissa l a0 a3) (va_cwS 2 hts gX4_quotient_X4_mantissa rfl rfl rfl (by decide +kernel) ⟨Nat.le_of_ble_eq_true rfl, Nat.le_of_ble_eq_true rfl⟩) ⟨fun _ _ _ _ q => q, fun U hU hW => rfl⟩ rfl rfl hl.1 rfl (lv_room (Nat.le_of_ble_eq_true rfl)) dX4_quotient_41 ⟨Nat.le_of_ble_eq_true rfl, Nat.le_of_ble_eq_true rfl⟩) (fun r hr => ?_)
  subst hr
  refine lv_topl (fun y8 ey8 => ?_)
  rw [← ey8] at hJ
  rw [jX4_quotient_y8] at hJ
  refine lv_lstore (lv' := [(8, .long y8), (6, .long y7), (5, .int y5), (0, .int a0), (1, .long a1), (3, .long a3)]) hx hb dX4_quotient_44 hl (by decide) rfl (fun ls hl => ?_)
  refine lv_lload hx hb dX4_quotient_46 (lv_at hl 1 rfl) ?_
  refine lv_lconst (v := (0 : Int64)) hx hb dX4_quotient_48 (by decide) ?_
  refine W.lcmp hx hb dX4_quotient_49 ?_
  refine lv_if_eq (tgt := 60) hx hb dX4_quotient_50 (by decide) (fun c9 => ?_) (fun c9 => ?_)
  · have c9 := (lg_cmp_eq _ _).mp c9
    rw [if_pos c9] at hJ
    refine lv_iload_n hx hb dX4_quotient_60 rfl (lv_at hl 3 rfl) ?_
    refine lv_iload hx hb dX4_quotient_61 (lv_at hl 2 rfl) ?_
    refine lv_lconst (v := (0 : Int64)) hx hb dX4_quotient_63 (by decide) ?_
    refine vp_callSl (W.runS (As := [.int a0, .int y5, .long (0 : Int64)]) (rest := []) ⟨hx, hb, hml, hown, hts⟩ (qX4_signed l a0 y5 (0 : Int64)) (va_cwS 3 hts gX4_quotient_X4_signed rfl rfl rfl (by decide +kernel) ⟨Nat.le_of_ble_eq_true rfl, Nat.le_of_ble_eq_true rfl⟩) ⟨fun _ _ _ _ q => q, fun U hU hW => rfl⟩ rfl rfl hl.1 rfl (lv_room (Nat.le_of_ble_eq_true rfl)) dX4_quotient_64 ⟨Nat.le_of_ble_eq_true rfl, Nat.le_of_ble_eq_true rfl⟩) (fun r hr => ?_)
    subst hr
    exact W.lret hx hb hr (fun t ht hW => ⟨_, rfl, hJ.trans hE.symm, ht⟩) (fun q h => absurd h List.not_mem_nil) dX4_quotient_67
  · have c9 := mt (lg_cmp_eq _ _).mpr c9
    rw [if_neg c9] at hJ
    refine lv_lload hx hb dX4_quotient_53 (lv_at hl 0 rfl) ?_
    refine lv_lconst (v := (0 : Int64)) hx hb dX4_quotient_55 (by decide) ?_
    refine W.lcmp hx hb dX4_quotient_56 ?_
    refine lv_if_ne (tgt := 68) hx hb dX4_quotient_57 (by decide) (fun c10 => ?_) (fun c10 => ?_)
    · have c10 := mt (lg_cmp_eq _ _).mpr c10
      rw [if_neg c10] at hJ
      refine lv_bipush (v := (53 : Int32)) hx hb dX4_quotient_68 (by decide) ?_
      refine lv_lload hx hb dX4_quotient_70 (lv_at hl 1 rfl) ?_
      refine vp_callSi (W.runS (As := [.long y7]) (rest := [.int (53 : Int32)]) ⟨hx, hb, hml, hown, hts⟩ (qX4_lengthOf l y7) (va_cwS 1 hts gX4_quotient_X4_lengthOf rfl rfl rfl (by decide +kernel) ⟨Nat.le_of_ble_eq_true rfl, Nat.le_of_ble_eq_true rfl⟩) ⟨fun _ _ _ _ q => q, fun U hU hW => rfl⟩ rfl rfl hl.1 rfl (lv_room (Nat.le_of_ble_eq_true rfl)) dX4_quotient_72 ⟨Nat.le_of_ble_eq_true rfl, Nat.le_of_ble_eq_true rfl⟩) (fun r hr => ?_)
      subst hr
      refine lv_isub hx hb dX4_quotient_75 ?_
      refine lv_topi (fun y11 ey11 => ?_)
      rw [← ey11] at hJ
      rw [jX4_quotient_y11] at hJ
      refine lv_istore (lv' := [(10, .int y11), (8, .long y8), (6, .long y7), (5, .int y5), (0, .int a0), (1, .long a1), (3, .long a3)]) hx hb dX4_quotient_76 hl (by decide) rfl (fun ls hl => ?_)
      refine lv_bipush (v := (53 : Int32)) hx hb dX4_quotient_78 (by decide) ?_
      refine lv_lload hx hb dX4_quotient_80 (lv_at hl 1 rfl) ?_
      refine vp_callSi (W.runS (As := [.long y8]) (rest := [.int (53 : Int32)]) ⟨hx, hb, hml, hown, hts⟩ (qX4_lengthOf l y8) (va_cwS 1 hts gX4_quotient_X4_lengthOf rfl rfl rfl (by decide +kernel) ⟨Nat.le_of_ble_eq_true rfl, Nat.le_of_ble_eq_true rfl⟩) ⟨fun _ _ _ _ q => q, fun U hU hW => rfl⟩ rfl rfl hl.1 rfl (lv_room (Nat.le_of_ble_eq_true rfl)) dX4_quotient_82 ⟨Nat.le_of_ble_eq_true rfl, Nat.le_of_ble_eq_true rfl⟩) (fun r hr => ?_)
      subst hr
      refine lv_isub hx hb dX4_quotient_85 ?_
      refine lv_topi (fun y12 ey12 => ?_)
      rw [← ey12] at hJ
      rw [jX4_quotient_y12] at hJ
      refine lv_istore (lv' := [(11, .int y12), (10, .int y11), (8, .long y8), (6, .long y7), (5, .int y5), (0, .int a0), (1, .long a1), (3, .long a3)]) hx hb dX4_quotient_86 hl (by decide) rfl (fun ls hl => ?_)
      refine lv_lload hx hb dX4_quotient_88 (lv_at hl 3 rfl) ?_
      refine lv_iload hx hb dX4_quotient_90 (lv_at hl 1 rfl) ?_
      refine lv_lshl (v := (y7 <<< (y11.toInt64 &&& 63))) hx hb dX4_quotient_92 rfl ?_
      refine lv_topl (fun y13 ey13 => ?_)
      rw [← ey13] at hJ
      rw [jX4_quotient_y13] at hJ
      refine lv_lstore (lv' := [(6, .long y13), (11, .int y12), (10, .int y11), (8, .long y8), (5, .int y5), (0, .int a0), (1, .long a1), (3, .long a3)]) hx hb dX4_quotient_93 hl (by decide) rfl (fun ls hl => ?_)
      refine lv_lload hx hb dX4_quotient_95 (lv_at hl 3 rfl) ?_
      refine lv_iload hx hb dX4_quotient_97 (lv_at hl 1 rfl) ?_
      refine lv_lshl (v := (y8 <<< (y12.toInt64 &&& 63))) hx hb dX4_quotient_99 rfl ?_
      refine lv_topl (fun y14 ey14 => ?_)
      rw [← ey14] at hJ
      rw [jX4_quotient_y14] at hJ
      refine lv_lstore (lv' := [(8, .long y14), (6, .long y13), (11, .int y12), (10, .int y11), (5, .int y5), (0, .int a0), (1, .long a1), (3, .long a3)]) hx hb dX4_quotient_100 hl (by decide) rfl (fun ls hl => ?_)
      have hnz : ¬ y14 = 0 := by subst ey14 ey12 ey8; exact p_quot_ne _ _ (by assumption)
      refine lv_lload hx hb dX4_quotient_102 (lv_at hl 1 rfl) ?_
      refine lv_lload hx hb dX4_quotient_104 (lv_at hl 0 rfl) ?_
      refine lv_ldiv hx hb dX4_quotient_106 hnz ?_
      refine lv_topl (fun y15 ey15 => ?_)
      rw [← ey15] at hJ
      rw [jX4_quotient_y15] at hJ
      refine lv_lstore (lv' := [(12, .long y15), (8, .long y14), (6, .long y13), (11, .int y12), (10, .int y11), (5, .int y5), (0, .int a0), (1, .long a1), (3, .long a3)]) hx hb dX4_quotient_107 hl (by decide) rfl (fun ls hl => ?_)
      refine lv_lload hx hb dX4_quotient_109 (lv_at hl 2 rfl) ?_
      refine lv_lload hx hb dX4_quotient_111 (lv_at hl 1 rfl) ?_
      refine lv_lrem hx hb dX4_quotient_113 hnz ?_
      refine lv_topl (fun y16 ey16 => ?_)
      rw [← ey16] at hJ
      rw [jX4_quotient_y16] at hJ
      refine lv_lstore (lv' := [(14, .long y16), (12, .long y15), (8, .long y14), (6, .long y13), (11, .int y12), (10, .int y11), (5, .int y5), (0, .int a0), (1, .long a1), (3, .long a3)]) hx hb dX4_quotient_114 hl (by decide) rfl (fun ls hl => ?_)
      refine lv_iconst (v := (0 : Int32)) hx hb dX4_quotient_116 (by decide) ?_
      refine lv_istore (lv' := [(16, .int (0 : Int32)), (14, .long y16), (12, .long y15), (8, .long y14), (6, .long y13), (11, .int y12), (10, .int y11), (5, .int y5), (0, .int a0), (1, .long a1), (3, .long a3)]) hx hb dX4_quotient_117 hl (by decide) rfl (fun ls hl => ?_)
      refine lv_iload hx hb dX4_quotient_119 (lv_at hl 0 rfl) ?_
      refine lv_bipush (v := (6 : Int32)) hx hb dX4_quotient_121 (by decide) ?_
      refine lv_icmp_ge (tgt := 159) hx hb dX4_quotient_123 (by decide) (fun cq => absurd cq (by decide)) (fun cq => ?_)
      refine lv_lload hx hb dX4_quotient_126 (lv_at hl 1 rfl) ?_
      refine lv_bipush (v := (10 : Int32)) hx hb dX4_quotient_128 (by decide) ?_
      refine lv_lshl (v := (y16 <<< ((10 : Int32).toInt64 &&& 63))) hx hb dX4_quotient_130 rfl ?_
      refine lv_topl (fun y17 ey17 => ?_)
      rw [← ey17] at hJ
      rw [jX4_quotient_y17] at hJ
      refine lv_lstore (lv' := [(14, .long y17), (16, .int (0 : Int32)), (12, .long y15), (8, .long y14), (6, .long y13), (11, .int y12), (10, .int y11), (5, .int y5), (0, .int a0), (1, .long a1), (3, .long a3)]) hx hb dX4_quotient_131 hl (by decide) rfl (fun ls hl => ?_)
      refine lv_lload hx hb dX4_quotient_133 (lv_at hl 2 rfl) ?_
      refine lv_bipush (v := (10 : Int32)) hx hb dX4_quotient_135 (by decide) ?_
      refine lv_lshl (v := (y15 <<< ((10 : Int32).toInt64 &&& 63))) hx hb dX4_quotient_137 rfl ?_
      refine lv_lload hx hb dX4_quotient_138 (lv_at hl 0 rfl) ?_
      refine lv_lload hx hb dX4_quotient_140 (lv_at hl 3 rfl) ?_
      refine lv_ldiv hx hb dX4_quotient_142 hnz ?_
      refine lv_lor hx hb dX4_quotient_143 ?_
      refine lv_topl (fun y18 ey18 => ?_)
      rw [← ey18] at hJ
      rw [jX4_quotient_y18] at hJ
      refine lv_lstore (lv' := [(12, .long y18), (14, .long y17), (16, .int (0 : Int32)), (8, .long y14), (6, .long y13), (11, .int y12), (10, .int y11), (5, .int y5), (0, .int a0), (1, .long a1), (3, .long a3)]) hx hb dX4_quotient_144 hl (by decide) rfl (fun ls hl => ?_)
      refine lv_lload hx hb dX4_quotient_146 (lv_at hl 1 rfl) ?_
      refine lv_lload hx hb dX4_quotient_148 (lv_at hl 3 rfl) ?_
      refine lv_lrem hx hb dX4_quotient_150 hnz ?_
      refine lv_topl (fun y19 ey19 => ?_)
      rw [← ey19] at hJ
      rw [jX4_quotient_y19] at hJ
      refine lv_lstore (lv' := [(14, .long y19), (12, .long y18), (16, .int (0 : Int32)), (8, .long y14), (6, .long y13), (11, .int y12), (10, .int y11), (5, .int y5), (0, .int a0), (1, .long a1), (3, .long a3)]) hx hb dX4_quotient_151 hl (by decide) rfl (fun ls hl => ?_)
      refine lv_iinc (v := (1 : Int32)) (lv' := [(16, .int (1 : Int32)), (14, .long y19), (12, .long y18), (8, .long y14), (6, .long y13), (11, .int y12), (10, .int y11), (5, .int y5), (0, .int a0), (1, .long a1), (3, .long a3)]) hx hb dX4_quotient_153 hl (k := 2) rfl (by first | rfl | decide) (by decide) rfl (fun ls hl => ?_)
      refine lv_goto (tgt := 119) hx hb dX4_quotient_156 (by decide) ?_
      refine lv_iload hx hb dX4_quotient_119 (lv_at hl 0 rfl) ?_
      refine lv_bipush (v := (6 : Int32)) hx hb dX4_quotient_121 (by decide) ?_
      refine lv_icmp_ge (tgt := 159) hx hb dX4_quotient_123 (by decide) (fun cq => absurd cq (by decide)) (fun cq => ?_)
      refine lv_lload hx hb dX4_quotient_126 (lv_at hl 1 rfl) ?_
      refine lv_bipush (v := (10 : Int32)) hx hb dX4_quotient_128 (by decide) ?_
      refine lv_lshl (v := (y19 <<< ((10 : Int32).toInt64 &&& 63))) hx hb dX4_quotient_130 rfl ?_
      refine lv_topl (fun y20 ey20 => ?_)
      rw [← ey20] at hJ
      rw [jX4_quotient_y20] at hJ
      refine lv_lstore (lv' := [(14, .long y20), (16, .int (1 : Int32)), (12, .long y18), (8, .long y14), (6, .long y13), (11, .int y12), (10, .int y11), (5, .int y5), (0, .int a0), (1, .long a1), (3, .long a3)]) hx hb dX4_quotient_131 hl (by decide) rfl (fun ls hl => ?_)
      refine lv_lload hx hb dX4_quotient_133 (lv_at hl 2 rfl) ?_
      refine lv_bipush (v := (10 : Int32)) hx hb dX4_quotient_135 (by decide) ?_
      refine lv_lshl (v := (y18 <<< ((10 : Int32).toInt64 &&& 63))) hx hb dX4_quotient_137 rfl ?_
      refine lv_lload hx hb dX4_quotient_138 (lv_at hl 0 rfl) ?_
      refine lv_lload hx hb dX4_quotient_140 (lv_at hl 3 rfl) ?_
      refine lv_ldiv hx hb dX4_quotient_142 hnz ?_
      refine lv_lor hx hb dX4_quotient_143 ?_
      refine lv_topl (fun y21 ey21 => ?_)
      rw [← ey21] at hJ
      rw [jX4_quotient_y21] at hJ
      refine lv_lstore (lv' := [(12, .long y21), (14, .long y20), (16, .int (1 : Int32)), (8, .long y14), (6, .long y13), (11, .int y12), (10, .int y11), (5, .int y5), (0, .int a0), (1, .long a1), (3, .long a3)]) hx hb dX4_quotient_144 hl (by decide) rfl (fun ls hl => ?_)
      refine lv_lload hx hb dX4_quotient_146 (lv_at hl 1 rfl) ?_
      refine lv_lload hx hb dX4_quotient_148 (lv_at hl 3 rfl) ?_
      refine lv_lrem hx hb dX4_quotient_150 hnz ?_
      refine lv_topl (fun y22 ey22 => ?_)
      rw [← ey22] at hJ
      rw [jX4_quotient_y22] at hJ
      refine lv_lstore (lv' := [(14, .long y22), (12, .long y21), (16, .int (1 : Int32)), (8, .long y14), (6, .long y13), (11, .int y12), (10, .int y11), (5, .int y5), (0, .int a0), (1, .long a1), (3, .long a3)]) hx hb dX4_quotient_151 hl (by decide) rfl (fun ls hl => ?_)
      refine lv_iinc (v := (2 : Int32)) (lv' := [(16, .int (2 : Int32)), (14, .long y22), (12, .long y21), (8, .long y14), (6, .long y13), (11, .int y12), (10, .int y11), (5, .int y5), (0, .int a0), (1, .long a1), (3, .long a3)]) hx hb dX4_quotient_153 hl (k := 2) rfl (by first | rfl | decide) (by decide) rfl (fun ls hl => ?_)
      refine lv_goto (tgt := 119) hx hb dX4_quotient_156 (by decide) ?_
      refine lv_iload hx hb dX4_quotient_119 (lv_at hl 0 rfl) ?_
      refine lv_bipush (v := (6 : Int32)) hx hb dX4_quotient_121 (by decide) ?_
      refine lv_icmp_ge (tgt := 159) hx hb dX4_quotient_123 (by decide) (fun cq => absurd cq (by decide)) (fun cq => ?_)
      refine lv_lload hx hb dX4_quotient_126 (lv_at hl 1 rfl) ?_
      refine lv_bipush (v := (10 : Int32)) hx hb dX4_quotient_128 (by decide) ?_
      refine lv_lshl (v := (y22 <<< ((10 : Int32).toInt64 &&& 63))) hx hb dX4_quotient_130 rfl ?_
      refine lv_topl (fun y23 ey23 => ?_)
      rw [← ey23] at hJ
      rw [jX4_quotient_y23] at hJ
      refine lv_lstore (lv' := [(14, .long y23), (16, .int (2 : Int32)), (12, .long y21), (8, .long y14), (6, .long y13), (11, .int y12), (10, .int y11), (5, .int y5), (0, .int a0), (1, .long a1), (3, .long a3)]) hx hb dX4_quotient_131 hl (by decide) rfl (fun ls hl => ?_)
      refine lv_lload hx hb dX4_quotient_133 (lv_at hl 2 rfl) ?_
      refine lv_bipush (v := (10 : Int32)) hx hb dX4_quotient_135 (by decide) ?_
      refine lv_lshl (v := (y21 <<< ((10 : Int32).toInt64 &&& 63))) hx hb dX4_quotient_137 rfl ?_
      refine lv_lload hx hb dX4_quotient_138 (lv_at hl 0 rfl) ?_
      refine lv_lload hx hb dX4_quotient_140 (lv_at hl 3 rfl) ?_
      refine lv_ldiv hx hb dX4_quotient_142 hnz ?_
      refine lv_lor hx hb dX4_quotient_143 ?_
      refine lv_topl (fun y24 ey24 => ?_)
      rw [← ey24] at hJ
      rw [jX4_quotient_y24] at hJ
      refine lv_lstore (lv' := [(12, .long y24), (14, .long y23), (16, .int (2 : Int32)), (8, .long y14), (6, .long y13), (11, .int y12), (10, .int y11), (5, .int y5), (0, .int a0), (1, .long a1), (3, .long a3)]) hx hb dX4_quotient_144 hl (by decide) rfl (fun ls hl => ?_)
      refine lv_lload hx hb dX4_quotient_146 (lv_at hl 1 rfl) ?_
      refine lv_lload hx hb dX4_quotient_148 (lv_at hl 3 rfl) ?_
      refine lv_lrem hx hb dX4_quotient_150 hnz ?_
      refine lv_topl (fun y25 ey25 => ?_)
      rw [← ey25] at hJ
      rw [jX4_quotient_y25] at hJ
      refine lv_lstore (lv' := [(14, .long y25), (12, .long y24), (16, .int (2 : Int32)), (8, .long y14), (6, .long y13), (11, .int y12), (10, .int y11), (5, .int y5), (0, .int a0), (1, .long a1), (3, .long a3)]) hx hb dX4_quotient_151 hl (by decide) rfl (fun ls hl => ?_)
      refine lv_iinc (v := (3 : Int32)) (lv' := [(16, .int (3 : Int32)), (14, .long y25), (12, .long y24), (8, .long y14), (6, .long y13), (11, .int y12), (10, .int y11), (5, .int y5), (0, .int a0), (1, .long a1), (3, .long a3)]) hx hb dX4_quotient_153 hl (k := 2) rfl (by first | rfl | decide) (by decide) rfl (fun ls hl => ?_)
      refine lv_goto (tgt := 119) hx hb dX4_quotient_156 (by decide) ?_
      refine lv_iload hx hb dX4_quotient_119 (lv_at hl 0 rfl) ?_
      refine lv_bipush (v := (6 : Int32)) hx hb dX4_quotient_121 (by decide) ?_
      refine lv_icmp_ge (tgt := 159) hx hb dX4_quotient_123 (by decide) (fun cq => absurd cq (by decide)) (fun cq => ?_)
      refine lv_lload hx hb dX4_quotient_126 (lv_at hl 1 rfl) ?_
      refine lv_bipush (v := (10 : Int32)) hx hb dX4_quotient_128 (by decide) ?_
      refine lv_lshl (v := (y25 <<< ((10 : Int32).toInt64 &&& 63))) hx hb dX4_quotient_130 rfl ?_
      refine lv_topl (fun y26 ey26 => ?_)
      rw [← ey26] at hJ
      rw [jX4_quotient_y26] at hJ
      refine lv_lstore (lv' := [(14, .long y26), (16, .int (3 : Int32)), (12, .long y24), (8, .long y14), (6, .long y13), (11, .int y12), (10, .int y11), (5, .int y5), (0, .int a0), (1, .long a1), (3, .long a3)]) hx hb dX4_quotient_131 hl (by decide) rfl (fun ls hl => ?_)
      refine lv_lload hx hb dX4_quotient_133 (lv_at hl 2 rfl) ?_
      refine lv_bipush (v := (10 : Int32)) hx hb dX4_quotient_135 (by decide) ?_
      refine lv_lshl (v := (y24 <<< ((10 : Int32).toInt64 &&& 63))) hx hb dX4_quotient_137 rfl ?_
      refine lv_lload hx hb dX4_quotient_138 (lv_at hl 0 rfl) ?_
      refine lv_lload hx hb dX4_quotient_140 (lv_at hl 3 rfl) ?_
      refine lv_ldiv hx hb dX4_quotient_142 hnz ?_
      refine lv_lor hx hb dX4_quotient_143 ?_
      refine lv_topl (fun y27 ey27 => ?_)
      rw [← ey27] at hJ
      rw [jX4_quotient_y27] at hJ
      refine lv_lstore (lv' := [(12, .long y27), (14, .long y26), (16, .int (3 : Int32)), (8, .long y14), (6, .long y13), (11, .int y12), (10, .int y11), (5, .int y5), (0, .int a0), (1, .long a1), (3, .long a3)]) hx hb dX4_quotient_144 hl (by decide) rfl (fun ls hl => ?_)
      refine lv_lload hx hb dX4_quotient_146 (lv_at hl 1 rfl) ?_
      refine lv_lload hx hb dX4_quotient_148 (lv_at hl 3 rfl) ?_
      refine lv_lrem hx hb dX4_quotient_150 hnz ?_
      refine lv_topl (fun y28 ey28 => ?_)
      rw [← ey28] at hJ
      rw [jX4_quotient_y28] at hJ
      refine lv_lstore (lv' := [(14, .long y28), (12, .long y27), (16, .int (3 : Int32)), (8, .long y14), (6, .long y13), (11, .int y12), (10, .int y11), (5, .int y5), (0, .int a0), (1, .long a1), (3, .long a3)]) hx hb dX4_quotient_151 hl (by decide) rfl (fun ls hl => ?_)
      refine lv_iinc (v := (4 : Int32)) (lv' := [(16, .int (4 : Int32)), (14, .long y28), (12, .long y27), (8, .long y14), (6, .long y13), (11, .int y12), (10, .int y11), (5, .int y5), (0, .int a0), (1, .long a1), (3, .long a3)]) hx hb dX4_quotient_153 hl (k := 2) rfl (by first | rfl | decide) (by decide) rfl (fun ls hl => ?_)
      refine lv_goto (tgt := 119) hx hb dX4_quotient_156 (by decide) ?_
      refine lv_iload hx hb dX4_quotient_119 (lv_at hl 0 rfl) ?_
      refine lv_bipush (v := (6 : Int32)) hx hb dX4_quotient_121 (by decide) ?_
      refine lv_icmp_ge (tgt := 159) hx hb dX4_quotient_123 (by decide) (fun cq => absurd cq (by decide)) (fun cq => ?_)
      refine lv_lload hx hb dX4_quotient_126 (lv_at hl 1 rfl) ?_
      refine lv_bipush (v := (10 : Int32)) hx hb dX4_quotient_128 (by decide) ?_
      refine lv_lshl (v := (y28 <<< ((10 : Int32).toInt64 &&& 63))) hx hb dX4_quotient_130 rfl ?_
      refine lv_topl (fun y29 ey29 => ?_)
      rw [← ey29] at hJ
      rw [jX4_quotient_y29] at hJ
      refine lv_lstore (lv' := [(14, .long y29), (16, .int (4 : Int32)), (12, .long y27), (8, .long y14), (6, .long y13), (11, .int y12), (10, .int y11), (5, .int y5), (0, .int a0), (1, .long a1), (3, .long a3)]) hx hb dX4_quotient_131 hl (by decide) rfl (fun ls hl => ?_)
      refine lv_lload hx hb dX4_quotient_133 (lv_at hl 2 rfl) ?_
      refine lv_bipush (v := (10 : Int32)) hx hb dX4_quotient_135 (by decide) ?_
      refine lv_lshl (v := (y27 <<< ((10 : Int32).toInt64 &&& 63))) hx hb dX4_quotient_137 rfl ?_
      refine lv_lload hx hb dX4_quotient_138 (lv_at hl 0 rfl) ?_
      refine lv_lload hx hb dX4_quotient_140 (lv_at hl 3 rfl) ?_
      refine lv_ldiv hx hb dX4_quotient_142 hnz ?_
      refine lv_lor hx hb dX4_quotient_143 ?_
      refine lv_topl (fun y30 ey30 => ?_)
      rw [← ey30] at hJ
      rw [jX4_quotient_y30] at hJ
      refine lv_lstore (lv' := [(12, .long y30), (14, .long y29), (16, .int (4 : Int32)), (8, .long y14), (6, .long y13), (11, .int y12), (10, .int y11), (5, .int y5), (0, .int a0), (1, .long a1), (3, .long a3)]) hx hb dX4_quotient_144 hl (by decide) rfl (fun ls hl => ?_)
      refine lv_lload hx hb dX4_quotient_146 (lv_at hl 1 rfl) ?_
      refine lv_lload hx hb dX4_quotient_148 (lv_at hl 3 rfl) ?_
      refine lv_lrem hx hb dX4_quotient_150 hnz ?_
      refine lv_topl (fun y31 ey31 => ?_)
      rw [← ey31] at hJ
      rw [jX4_quotient_y31] at hJ
      refine lv_lstore (lv' := [(14, .long y31), (12, .long y30), (16, .int (4 : Int32)), (8, .long y14), (6, .long y13), (11, .int y12), (10, .int y11), (5, .int y5), (0, .int a0), (1, .long a1), (3, .long a3)]) hx hb dX4_quotient_151 hl (by decide) rfl (fun ls hl => ?_)
      refine lv_iinc (v := (5 : Int32)) (lv' := [(16, .int (5 : Int32)), (14, .long y31), (12, .long y30), (8, .long y14), (6, .long y13), (11, .int y12), (10, .int y11), (5, .int y5), (0, .int a0), (1, .long a1), (3, .long a3)]) hx hb dX4_quotient_153 hl (k := 2) rfl (by first | rfl | decide) (by decide) rfl (fun ls hl => ?_)
      refine lv_goto (tgt := 119) hx hb dX4_quotient_156 (by decide) ?_
      refine lv_iload hx hb dX4_quotient_119 (lv_at hl 0 rfl) ?_
      refine lv_bipush (v := (6 : Int32)) hx hb dX4_quotient_121 (by decide) ?_
      refine lv_icmp_ge (tgt := 159) hx hb dX4_quotient_123 (by decide) (fun cq => absurd cq (by decide)) (fun cq => ?_)
      refine lv_lload hx hb dX4_quotient_126 (lv_at hl 1 rfl) ?_
      refine lv_bipush (v := (10 : Int32)) hx hb dX4_quotient_128 (by decide) ?_
      refine lv_lshl (v := (y31 <<< ((10 : Int32).toInt64 &&& 63))) hx hb dX4_quotient_130 rfl ?_
      refine lv_topl (fun y32 ey32 => ?_)
      rw [← ey32] at hJ
      rw [jX4_quotient_y32] at hJ
      refine lv_lstore (lv' := [(14, .long y32), (16, .int (5 : Int32)), (12, .long y30), (8, .long y14), (6, .long y13), (11, .int y12), (10, .int y11), (5, .int y5), (0, .int a0), (1, .long a1), (3, .long a3)]) hx hb dX4_quotient_131 hl (by decide) rfl (fun ls hl => ?_)
      refine lv_lload hx hb dX4_quotient_133 (lv_at hl 2 rfl) ?_
      refine lv_bipush (v := (10 : Int32)) hx hb dX4_quotient_135 (by decide) ?_
      refine lv_lshl (v := (y30 <<< ((10 : Int32).toInt64 &&& 63))) hx hb dX4_quotient_137 rfl ?_
      refine lv_lload hx hb dX4_quotient_138 (lv_at hl 0 rfl) ?_
      refine lv_lload hx hb dX4_quotient_140 (lv_at hl 3 rfl) ?_
      refine lv_ldiv hx hb dX4_quotient_142 hnz ?_
      refine lv_lor hx hb dX4_quotient_143 ?_
      refine lv_topl (fun y33 ey33 => ?_)
      rw [← ey33] at hJ
      rw [jX4_quotient_y33] at hJ
      refine lv_lstore (lv' := [(12, .long y33), (14, .long y32), (16, .int (5 : Int32)), (8, .long y14), (6, .long y13), (11, .int y12), (10, .int y11), (5, .int y5), (0, .int a0), (1, .long a1), (3, .long a3)]) hx hb dX4_quotient_144 hl (by decide) rfl (fun ls hl => ?_)
      refine lv_lload hx hb dX4_quotient_146 (lv_at hl 1 rfl) ?_
      refine lv_lload hx hb dX4_quotient_148 (lv_at hl 3 rfl) ?_
      refine lv_lrem hx hb dX4_quotient_150 hnz ?_
      refine lv_topl (fun y34 ey34 => ?_)
      rw [← ey34] at hJ
      rw [jX4_quotient_y34] at hJ
      refine lv_lstore (lv' := [(14, .long y34), (12, .long y33), (16, .int (5 : Int32)), (8, .long y14), (6, .long y13), (11, .int y12), (10, .int y11), (5, .int y5), (0, .int a0), (1, .long a1), (3, .long a3)]) hx hb dX4_quotient_151 hl (by decide) rfl (fun ls hl => ?_)
      refine lv_iinc (v := (6 : Int32)) (lv' := [(16, .int (6 : Int32)), (14, .long y34), (12, .long y33), (8, .long y14), (6, .long y13), (11, .int y12), (10, .int y11), (5, .int y5), (0, .int a0), (1, .long a1), (3, .long a3)]) hx hb dX4_quotient_153 hl (k := 2) rfl (by first | rfl | decide) (by decide) rfl (fun ls hl => ?_)
      refine lv_goto (tgt := 119) hx hb dX4_quotient_156 (by decide) ?_
      refine lv_iload hx hb dX4_quotient_119 (lv_at hl 0 rfl) ?_
      refine lv_bipush (v := (6 : Int32)) hx hb dX4_quotient_121 (by decide) ?_
      refine lv_icmp_ge (tgt := 159) hx hb dX4_quotient_123 (by decide) (fun cq => ?_) (fun cq => absurd cq (by decide))
      refine lv_iload_n hx hb dX4_quotient_159 rfl (lv_at hl 8 rfl) ?_
      refine lv_lload_n hx hb dX4_quotient_160 rfl (lv_at hl 9 rfl) ?_
      refine vp_callSi (W.runS (As := [.int a0, .long a1]) (rest := []) ⟨hx, hb, hml, hown, hts⟩ (qX4_exponent l a0 a1) (va_cwS 2 hts gX4_quotient_X4_exponent rfl rfl rfl (by decide +kernel) ⟨Nat.le_of_ble_eq_true rfl, Nat.le_of_ble_eq_true rfl⟩) ⟨fun _ _ _ _ q => q, fun U hU hW => rfl⟩ rfl rfl hl.1 rfl (lv_room (Nat.le_of_ble_eq_true rfl)) dX4_quotient_161 ⟨Nat.le_of_ble_eq_true rfl, Nat.le_of_ble_eq_true rfl⟩) (fun r hr => ?_)
      subst hr
      refine lv_iload hx hb dX4_quotient_164 (lv_at hl 6 rfl) ?_
      refine lv_isub hx hb dX4_quotient_166 ?_
      refine lv_iload_n hx hb dX4_quotient_167 rfl (lv_at hl 8 rfl) ?_
      refine lv_lload_n hx hb dX4_quotient_168 rfl (lv_at hl 10 rfl) ?_
      refine vp_callSi (W.runS (As := [.int a0, .long a3]) (rest := [.int ((jX4_exponent a0 a1) - y11)]) ⟨hx, hb, hml, hown, hts⟩ (qX4_exponent l a0 a3) (va_cwS 2 hts gX4_quotient_X4_exponent rfl rfl rfl (by decide +kernel) ⟨Nat.le_of_ble_eq_true rfl, Nat.le_of_ble_eq_true rfl⟩) ⟨fun _ _ _ _ q => q, fun U hU hW => rfl⟩ rfl rfl hl.1 rfl (lv_room (Nat.le_of_ble_eq_true rfl)) dX4_quotient_169 ⟨Nat.le_of_ble_eq_true rfl, Nat.le_of_ble_eq_true rfl⟩) (fun r hr => ?_)
      subst hr
      refine lv_isub hx hb dX4_quotient_172 ?_
      refine lv_iload hx hb dX4_quotient_173 (lv_at hl 5 rfl) ?_
      refine lv_iadd hx hb dX4_quotient_175 ?_
      refine lv_topi (fun y35 ey35 => ?_)
      rw [← ey35] at hJ
      rw [jX4_quotient_y35] at hJ
      refine lv_istore (lv' := [(16, .int y35), (14, .long y34), (12, .long y33), (8, .long y14), (6, .long y13), (11, .int y12), (10, .int y11), (5, .int y5), (0, .int a0), (1, .long a1), (3, .long a3)]) hx hb dX4_quotient_176 hl (by decide) rfl (fun ls hl => ?_)
      refine lv_iload_n hx hb dX4_quotient_178 rfl (lv_at hl 8 rfl) ?_
      refine lv_iload hx hb dX4_quotient_179 (lv_at hl 7 rfl) ?_
      refine lv_lload hx hb dX4_quotient_181 (lv_at hl 2 rfl) ?_
      refine lv_lload hx hb dX4_quotient_183 (lv_at hl 1 rfl) ?_
      refine vp_callSl (W.runS (As := [.long y33, .long y34]) (rest := [.int y5, .int a0]) ⟨hx, hb, hml, hown, hts⟩ (qX4_withMore l y33 y34) (va_cwS 2 hts gX4_quotient_X4_withMore rfl rfl rfl (by decide +kernel) ⟨Nat.le_of_ble_eq_true rfl, Nat.le_of_ble_eq_true rfl⟩) ⟨fun _ _ _ _ q => q, fun U hU hW => rfl⟩ rfl rfl hl.1 rfl (lv_room (Nat.le_of_ble_eq_true rfl)) dX4_quotient_185 ⟨Nat.le_of_ble_eq_true rfl, Nat.le_of_ble_eq_true rfl⟩) (fun r hr => ?_)
      subst hr
      refine lv_iload hx hb dX4_quotient_188 (lv_at hl 0 rfl) ?_
      refine lv_bipush (v := (60 : Int32)) hx hb dX4_quotient_190 (by decide) ?_
      refine lv_isub hx hb dX4_quotient_192 ?_
      refine vp_callSl (W.runS (As := [.int a0, .int y5, .long (jX4_withMore y33 y34), .int (y35 - (60 : Int32))]) (rest := []) ⟨hx, hb, hml, hown, hts⟩ (qX4_nearest l a0 y5 (jX4_withMore y33 y34) (y35 - (60 : Int32))) (va_cwS 4 hts gX4_quotient_X4_nearest rfl rfl rfl (by decide +kernel) ⟨Nat.le_of_ble_eq_true rfl, Nat.le_of_ble_eq_true rfl⟩) ⟨fun _ _ _ _ q => q, fun U hU hW => rfl⟩ rfl rfl hl.1 rfl (lv_room (Nat.le_of_ble_eq_true rfl)) dX4_quotient_193 ⟨Nat.le_of_ble_eq_true rfl, Nat.le_of_ble_eq_true rfl⟩) (fun r hr => ?_)
      subst hr
      exact W.lret hx hb hr (fun t ht hW => ⟨_, rfl, hJ.trans hE.symm, ht⟩) (fun q h => absurd h List.not_mem_nil) dX4_quotient_196
    · have c10 := (lg_cmp_eq _ _).mp c10
      rw [if_pos c10] at hJ
      refine lv_iload_n hx hb dX4_quotient_60 rfl (lv_at hl 3 rfl) ?_
      refine lv_iload hx hb dX4_quotient_61 (lv_at hl 2 rfl) ?_
      refine lv_lconst (v := (0 : Int64)) hx hb dX4_quotient_63 (by decide) ?_
      refine vp_callSl (W.runS (As := [.int a0, .int y5, .long (0 : Int64)]) (rest := []) ⟨hx, hb, hml, hown, hts⟩ (qX4_signed l a0 y5 (0 : Int64)) (va_cwS 3 hts gX4_quotient_X4_signed rfl rfl rfl (by decide +kernel) ⟨Nat.le_of_ble_eq_true rfl, Nat.le_of_ble_eq_true rfl⟩) ⟨fun _ _ _ _ q => q, fun U hU hW => rfl⟩ rfl rfl hl.1 rfl (lv_room (Nat.le_of_ble_eq_true rfl)) dX4_quotient_64 ⟨Nat.le_of_ble_eq_true rfl, Nat.le_of_ble_eq_true rfl⟩) (fun r hr => ?_)
      subst hr
      exact W.lret hx hb hr (fun t ht hW => ⟨_, rfl, hJ.trans hE.symm, ht⟩) (fun q h => absurd h List.not_mem_nil) dX4_quotient_67
def jX4_leftOver_L (y1 : Int64) (st : Int32) : Nat → Int32 → Int64 → Int64
  | 0, _, rs => rs
  | n + 1, ap, rs => if ap ≤ 0 then rs else jX4_leftOver_L y1 st n (ap - st) ((rs <<< ((if ap < st then ap else st).toInt64 &&& 63)) - (rs <<< ((if ap < st then ap else st).toInt64 &&& 63)) / y1 * y1)
theorem jX4_leftOver_L_le {y1 : Int64} {st : Int32} {n : Nat} {ap : Int32} {rs : Int64} (h : ap ≤ 0) : jX4_leftOver_L y1 st n ap rs = rs := by cases n with
  | zero => rfl
  | succ n => rw [jX4_leftOver_L, if_pos h]
theorem jX4_leftOver_L_succ {y1 : Int64} {st : Int32} {n : Nat} {ap : Int32} {rs : Int64} (h : ¬ ap ≤ 0) : jX4_leftOver_L y1 st (n + 1) ap rs = jX4_leftOver_L y1 st n (ap - st) ((rs <<< ((if ap < st then ap else st).toInt64 &&& 63)) - (rs <<< ((if ap < st then ap else st).toInt64 &&& 63)) / y1 * y1) := by rw [jX4_leftOver_L, if_neg h]
def jX4_leftOver_y7 (a0 : Int32) (a1 : Int64) (a3 : Int64) (rs : Int64) (y7 : Int32) : Int64 := (jX4_nearest a0 y7 rs (jX4_exponent a0 a3))
def jX4_leftOver_T (a0 : Int32) (a1 : Int64) (a3 : Int64) (rs : Int64) : Int64 := (jX4_leftOver_y7 a0 a1 a3 rs (if (0 : Int64) ≤ a1 then (0 : Int32) else (1 : Int32)))
def jX4_leftOver_y6 (a0 : Int32) (a1 : Int64) (a3 : Int64) (y1 : Int64) (y4 : Int64) (y5 : Int32) (y6 : Int32) : Int64 := (jX4_leftOver_T a0 a1 a3 (jX4_leftOver_L y1 y5 4096 y6 y4))
def jX4_leftOver_y5 (a0 : Int32) (a1 : Int64) (a3 : Int64) (y1 : Int64) (y4 : Int64) (y5 : Int32) : Int64 := (jX4_leftOver_y6 a0 a1 a3 y1 y4 y5 ((jX4_exponent a0 a1) - (jX4_exponent a0 a3)))
def jX4_leftOver_y4 (a0 : Int32) (a1 : Int64) (a3 : Int64) (y1 : Int64) (y4 : Int64) : Int64 := (jX4_leftOver_y5 a0 a1 a3 y1 y4 (if (10 : Int32) < ((jJ13_numberOfLeadingZeros_95d88 y1) - (1 : Int32)) then ((jJ13_numberOfLeadingZeros_95d88 y1) - (1 : Int32)) else (10 : Int32)))
def jX4_leftOver_y1 (a0 : Int32) (a1 : Int64) (a3 : Int64) (y1 : Int64) : Int64 := (if y1 = (0 : Int64) then a1 else (if (jX4_sizeOf a0 a3) ≤ (jX4_sizeOf a0 a1) then (jX4_leftOver_y4 a0 a1 a3 y1 ((jX4_mantissa a0 a1) - (jX4_mantissa a0 a1) / y1 * y1)) else a1))
def jX4_leftOver (a0 : Int32) (a1 : Int64) (a3 : Int64) : Int64 := (jX4_leftOver_y1 a0 a1 a3 (jX4_mantissa a0 a3))
set_option maxHeartbeats 4000000 in
set_option maxRecDepth 100000 in
theorem qX4_leftOver (l : Launch) (a0 : Int32) (a1 : Int64) (a3 : Int64) : Met l yX4_leftOver wsX4_leftOver ({ frames := 4, cells := 0, slots := 0, locals := 96 }) (fun v _ => v = ([.int a0, .long a1, .long a3] : List Value).toArray) (vp_Sl (fun r => r = jX4_leftOver a0 a1 a3)) 0 0 (fun _ => False) := by
  refine Met.ofW (cc := cX4_leftOver) (maxL := 11) (ret := some .long) (by decide) rfl ?_
  intro p e s m args below meth c s₁ B hml hv
  subst hv
  have hx := B.exec
  have hb := B.bytes
  have hr := B.returns
  have hts := atoms_spec (ws := wsX4_leftOver) B.pre
  have hown : s.vm.findClass RX4 = some m.cls := findClass_of_methodNamed B.named
  have hlocks := B.notSynchronized
  obtain ⟨JR, hE⟩ : ∃ q, jX4_leftOver a0 a1 a3 = q := ⟨_, rfl⟩
  have hJ := hE
  rw [jX4_leftOver] at hJ
  have hl := lv_entry ([.int a0, .long a1, .long a3]) (n := 11) (Nat.le_of_ble_eq_true rfl)
  rw [lg_entry_eq]
  generalize (lg_sl ([.int a0, .long a1, .long a3]) ++ List.replicate (11 - (lg_sl ([.int a0, .long a1, .long a3])).length) Slot.unset).toArray = ls at hl ⊢
  have hl : lv_has ls 11 [(0, .int a0), (1, .long a1), (3, .long a3)] := hl
  refine lv_iload_n hx hb dX4_leftOver_0 rfl (lv_at hl 0 rfl) ?_
  refine lv_lload_n hx hb dX4_leftOver_1 rfl (lv_at hl 2 rfl) ?_
  refine vp_callSl (W.runS (As := [.int a0, .long a3]) (rest := []) ⟨hx, hb, hml, hown, hts⟩ (qX4_mantissa l a0 a3) (va_cwS 2 hts gX4_leftOver_X4_mantissa rfl rfl rfl (by decide +kernel) ⟨Nat.le_of_ble_eq_true rfl, Nat.le_of_ble_eq_true rfl⟩) ⟨fun _ _ _ _ q => q, fun U hU hW => rfl⟩ rfl rfl hl.1 rfl (lv_room (Nat.le_of_ble_eq_true rfl)) dX4_leftOver_2 ⟨Nat.le_of_ble_eq_true rfl, Nat.le_of_ble_eq_true rfl⟩) (fun r hr => ?_)
  subst hr
  refine lv_topl (fun y1 ey1 => ?_)
  rw [← ey1] at hJ
  rw [jX4_leftOver_y1] at hJ
  refine lv_lstore (lv' := [(5, .long y1), (0, .int a0), (1, .long a1), (3, .long a3)]) hx hb dX4_leftOver_5 hl (by decide) rfl (fun ls hl => ?_)
  refine lv_lload hx hb dX4_leftOver_7 (lv_at hl 0 rfl) ?_
  refine lv_lconst (v := (0 : Int64)) hx hb dX4_leftOver_9 (by decide) ?_
  refine W.lcmp hx hb dX4_leftOver_10 ?_
  refine lv_if_eq (tgt := 28) hx hb dX4_leftOver_11 (by decide) (fun c2 => ?_) (fun c2 => ?_)
  · have c2 := (lg_cmp_eq _ _).mp c2
    rw [if_pos c2] at hJ
    refine lv_lload_n hx hb dX4_leftOver_28 rfl (lv_at hl 2 rfl) ?_
    exact W.lret hx hb hr (fun t ht hW => ⟨_, rfl, hJ.trans hE.symm, ht⟩) (fun q h => absurd h List.not_mem_nil) dX4_leftOver_29
  · have c2 := mt (lg_cmp_eq _ _).mpr c2
    rw [if_neg c2] at hJ
    refine lv_iload_n hx hb dX4_leftOver_14 rfl (lv_at hl 1 rfl) ?_
    refine lv_lload_n hx hb dX4_leftOver_15 rfl (lv_at hl 2 rfl) ?_
    refine vp_callSl (W.runS (As := [.int a0, .long a1]) (rest := []) ⟨hx, hb, hml, hown, hts⟩ (qX4_sizeOf l a0 a1) (va_cwS 2 hts gX4_leftOver_X4_sizeOf rfl rfl rfl (by decide +kernel) ⟨Nat.le_of_ble_eq_true rfl, Nat.le_of_ble_eq_true rfl⟩) ⟨fun _ _ _ _ q => q, fun U hU hW => rfl⟩ rfl rfl hl.1 rfl (lv_room (Nat.le_of_ble_eq_true rfl)) dX4_leftOver_16 ⟨Nat.le_of_ble_eq_true rfl, Nat.le_of_ble_eq_true rfl⟩) (fun r hr => ?_)
    subst hr
    refine lv_iload_n hx hb dX4_leftOver_19 rfl (lv_at hl 1 rfl) ?_
    refine lv_lload_n hx hb dX4_leftOver_20 rfl (lv_at hl 3 rfl) ?_
    refine vp_callSl (W.runS (As := [.int a0, .long a3]) (rest := [.long (jX4_sizeOf a0 a1)]) ⟨hx, hb, hml, hown, hts⟩ (qX4_sizeOf l a0 a3) (va_cwS 2 hts gX4_leftOver_X4_sizeOf rfl rfl rfl (by decide +kernel) ⟨Nat.le_of_ble_eq_true rfl, Nat.le_of_ble_eq_true rfl⟩) ⟨fun _ _ _ _ q => q, fun U hU hW => rfl⟩ rfl rfl hl.1 rfl (lv_room (Nat.le_of_ble_eq_true rfl)) dX4_leftOver_21 ⟨Nat.le_of_ble_eq_true rfl, Nat.le_of_ble_eq_true rfl⟩) (fun r hr => ?_)
    subst hr
    refine W.lcmp hx hb dX4_leftOver_24 ?_
    refine lv_if_ge (tgt := 30) hx hb dX4_leftOver_25 (by decide) (fun c3 => ?_) (fun c3 => ?_)
    · have c3 := (lg_cmp_ge _ _).mp c3
      rw [if_pos c3] at hJ
      refine lv_iload_n hx hb dX4_leftOver_30 rfl (lv_at hl 1 rfl) ?_
      refine lv_lload_n hx hb dX4_leftOver_31 rfl (lv_at hl 2 rfl) ?_
      refine vp_callSl (W.runS (As := [.int a0, .long a1]) (rest := []) ⟨hx, hb, hml, hown, hts⟩ (qX4_mantissa l a0 a1) (va_cwS 2 hts gX4_leftOver_X4_mantissa rfl rfl rfl (by decide +kernel) ⟨Nat.le_of_ble_eq_true rfl, Nat.le_of_ble_eq_true rfl⟩) ⟨fun _ _ _ _ q => q, fun U hU hW => rfl⟩ rfl rfl hl.1 rfl (lv_room (Nat.le_of_ble_eq_true rfl)) dX4_leftOver_32 ⟨Nat.le_of_ble_eq_true rfl, Nat.le_of_ble_eq_true rfl⟩) (fun r hr => ?_)
      subst hr
      refine lv_lload hx hb dX4_leftOver_35 (lv_at hl 0 rfl) ?_
      have hby : ¬ y1 = 0 := by assumption
      refine lv_lrem hx hb dX4_leftOver_37 hby ?_
      refine lv_topl (fun y4 ey4 => ?_)
      rw [← ey4] at hJ
      rw [jX4_leftOver_y4] at hJ
      refine lv_lstore (lv' := [(7, .long y4), (5, .long y1), (0, .int a0), (1, .long a1), (3, .long a3)]) hx hb dX4_leftOver_38 hl (by decide) rfl (fun ls hl => ?_)
      refine lv_bipush (v := (10 : Int32)) hx hb dX4_leftOver_40 (by decide) ?_
      refine lv_lload hx hb dX4_leftOver_42 (lv_at hl 1 rfl) ?_
      refine vp_callSi (W.runS (As := [.long y1]) (rest := [.int (10 : Int32)]) ⟨hx, hb, hml, hown, hts⟩ (qJ13_numberOfLeadingZeros_95d88 l y1) (va_cwS 1 hts gX4_leftOver_J13_numberOfLeadingZeros_95d88 rfl rfl rfl (by decide +kernel) ⟨Nat.le_of_ble_eq_true rfl, Nat.le_of_ble_eq_true rfl⟩) ⟨fun _ _ _ _ q => q, fun U hU hW => rfl⟩ rfl rfl hl.1 rfl (lv_room (Nat.le_of_ble_eq_true rfl)) dX4_leftOver_44 ⟨Nat.le_of_ble_eq_true rfl, Nat.le_of_ble_eq_true rfl⟩) (fun r hr => ?_)
      subst hr
      refine lv_iconst (v := (1 : Int32)) hx hb dX4_leftOver_47 (by decide) ?_
      refine lv_isub hx hb dX4_leftOver_48 ?_
      refine va_mmax hx hb (hml.trans hl.1.symm) hown (hts (.methodLink RX4 57 Lib.Math.max.name) (by decide +kernel)) (hts (.static Lib.Math.max.name) (by decide +kernel)) (hts (.initialized "java/lang/Math") (by decide +kernel)) (hts (.code Lib.Math.max.name Lib.Math.max.code 2 (some .int)) (by decide +kernel)) (Nat.le_of_ble_eq_true rfl) (Nat.le_of_ble_eq_true rfl) (Nat.zero_le _) (Nat.zero_le _) dX4_leftOver_49 ?_
      refine lv_topi (fun y5 ey5 => ?_)
      rw [← ey5] at hJ
      rw [jX4_leftOver_y5] at hJ
      refine lv_istore (lv' := [(9, .int y5), (7, .long y4), (5, .long y1), (0, .int a0), (1, .long a1), (3, .long a3)]) hx hb dX4_leftOver_52 hl (by decide) rfl (fun ls hl => ?_)
      refine lv_iload_n hx hb dX4_leftOver_54 rfl (lv_at hl 3 rfl) ?_
      refine lv_lload_n hx hb dX4_leftOver_55 rfl (lv_at hl 4 rfl) ?_
      refine vp_callSi (W.runS (As := [.int a0, .long a1]) (rest := []) ⟨hx, hb, hml, hown, hts⟩ (qX4_exponent l a0 a1) (va_cwS 2 hts gX4_leftOver_X4_exponent rfl rfl rfl (by decide +kernel) ⟨Nat.le_of_ble_eq_true rfl, Nat.le_of_ble_eq_true rfl⟩) ⟨fun _ _ _ _ q => q, fun U hU hW => rfl⟩ rfl rfl hl.1 rfl (lv_room (Nat.le_of_ble_eq_true rfl)) dX4_leftOver_56 ⟨Nat.le_of_ble_eq_true rfl, Nat.le_of_ble_eq_true rfl⟩) (fun r hr => ?_)
      subst hr
      refine lv_iload_n hx hb dX4_leftOver_59 rfl (lv_at hl 3 rfl) ?_
      refine lv_lload_n hx hb dX4_leftOver_60 rfl (lv_at hl 5 rfl) ?_
      refine vp_callSi (W.runS (As := [.int a0, .long a3]) (rest := [.int (jX4_exponent a0 a1)]) ⟨hx, hb, hml, hown, hts⟩ (qX4_exponent l a0 a3) (va_cwS 2 hts gX4_leftOver_X4_exponent rfl rfl rfl (by decide +kernel) ⟨Nat.le_of_ble_eq_true rfl, Nat.le_of_ble_eq_true rfl⟩) ⟨fun _ _ _ _ q => q, fun U hU hW => rfl⟩ rfl rfl hl.1 rfl (lv_room (Nat.le_of_ble_eq_true rfl)) dX4_leftOver_61 ⟨Nat.le_of_ble_eq_true rfl, Nat.le_of_ble_eq_true rfl⟩) (fun r hr => ?_)
      subst hr
      refine lv_isub hx hb dX4_leftOver_64 ?_
      refine lv_topi (fun y6 ey6 => ?_)
      rw [← ey6] at hJ
      rw [jX4_leftOver_y6] at hJ
      refine lv_istore (lv' := [(10, .int y6), (9, .int y5), (7, .long y4), (5, .long y1), (0, .int a0), (1, .long a1), (3, .long a3)]) hx hb dX4_leftOver_65 hl (by decide) rfl (fun ls hl => ?_)
      have hl := lv_sub (l' := [(10, .int y6), (7, .long y4), (9, .int y5), (5, .long y1), (0, .int a0), (1, .long a1), (3, .long a3)]) hl [0, 2, 1, 3, 4, 5, 6] rfl
      have hst : 10 ≤ y5.toInt ∧ y5.toInt ≤ 64 := by rw [ey5]; exact p_step _
      refine jn_loop (α := Int32 × Int64 × Array Slot) (P := fun q => F0 m 67 q.2.2 []) (I := fun n q => lv_has q.2.2 11 [(10, .int q.1), (7, .long q.2.1), (9, .int y5), (5, .long y1), (0, .int a0), (1, .long a1), (3, .long a3)] ∧ q.1.toInt ≤ (n : Int) ∧ jX4_leftOver_T a0 a1 a3 (jX4_leftOver_L y1 y5 n q.1 q.2.1) = JR) ?_ 4096 (y6, y4, ls) ⟨hl, by show y6.toInt ≤ _; rw [ey6]; exact p_apart _ _ _, hJ⟩
      intro n ⟨ap, rs, ls⟩ ⟨hl, hn, hJ⟩ ih
      have hl : lv_has ls 11 [(10, .int ap), (7, .long rs), (9, .int y5), (5, .long y1), (0, .int a0), (1, .long a1), (3, .long a3)] := hl
      have hn : ap.toInt ≤ (n : Int) := hn
      have hJ : jX4_leftOver_T a0 a1 a3 (jX4_leftOver_L y1 y5 n ap rs) = JR := hJ
      refine lv_iload hx hb dX4_leftOver_67 (lv_at hl 0 rfl) ?_
      refine lv_if_le (tgt := 97) hx hb dX4_leftOver_69 (by decide) (fun cl => ?_) (fun cl => ?_)
      · rw [jX4_leftOver_L_le cl] at hJ
        rw [jX4_leftOver_T] at hJ
        refine lv_iload_n hx hb dX4_leftOver_97 rfl (lv_at hl 4 rfl) ?_
        refine lv_lload_n hx hb dX4_leftOver_98 rfl (lv_at hl 5 rfl) ?_
        refine lv_lconst (v := (0 : Int64)) hx hb dX4_leftOver_99 (by decide) ?_
        refine W.lcmp hx hb dX4_leftOver_100 ?_
        refine jn_i (J := 109) (ls := ls) (v := (if (0 : Int64) ≤ a1 then (0 : Int32) else (1 : Int32))) (rest := [.int a0]) ?_ (fun y7 ey7 => ?_)
        · intro hj
          refine lv_if_ge (tgt := 108) hx hb dX4_leftOver_101 (by decide) (fun c8 => ?_) (fun c8 => ?_)
          · have c8 := (lg_cmp_ge _ _).mp c8
            rw [if_pos c8] at hj
            refine lv_iconst (v := (0 : Int32)) hx hb dX4_leftOver_108 (by decide) ?_
            exact hj
          · have c8 := mt (lg_cmp_ge _ _).mpr c8
            rw [if_neg c8] at hj
            refine lv_iconst (v := (1 : Int32)) hx hb dX4_leftOver_104 (by decide) ?_
            refine lv_goto (tgt := 109) hx hb dX4_leftOver_105 (by decide) ?_
            exact hj
        rw [← ey7] at hJ
        rw [jX4_leftOver_y7] at hJ
        refine lv_lload hx hb dX4_leftOver_109 (lv_at hl 1 rfl) ?_
        refine lv_iload_n hx hb dX4_leftOver_111 rfl (lv_at hl 4 rfl) ?_
        refine lv_lload_n hx hb dX4_leftOver_112 rfl (lv_at hl 6 rfl) ?_
        refine vp_callSi (W.runS (As := [.int a0, .long a3]) (rest := [.long rs, .int y7, .int a0]) ⟨hx, hb, hml, hown, hts⟩ (qX4_exponent l a0 a3) (va_cwS 2 hts gX4_leftOver_X4_exponent rfl rfl rfl (by decide +kernel) ⟨Nat.le_of_ble_eq_true rfl, Nat.le_of_ble_eq_true rfl⟩) ⟨fun _ _ _ _ q => q, fun U hU hW => rfl⟩ rfl rfl hl.1 rfl (lv_room (Nat.le_of_ble_eq_true rfl)) dX4_leftOver_113 ⟨Nat.le_of_ble_eq_true rfl, Nat.le_of_ble_eq_true rfl⟩) (fun r hr => ?_)
        subst hr
        refine vp_callSl (W.runS (As := [.int a0, .int y7, .long rs, .int (jX4_exponent a0 a3)]) (rest := []) ⟨hx, hb, hml, hown, hts⟩ (qX4_nearest l a0 y7 rs (jX4_exponent a0 a3)) (va_cwS 4 hts gX4_leftOver_X4_nearest rfl rfl rfl (by decide +kernel) ⟨Nat.le_of_ble_eq_true rfl, Nat.le_of_ble_eq_true rfl⟩) ⟨fun _ _ _ _ q => q, fun U hU hW => rfl⟩ rfl rfl hl.1 rfl (lv_room (Nat.le_of_ble_eq_true rfl)) dX4_leftOver_116 ⟨Nat.le_of_ble_eq_true rfl, Nat.le_of_ble_eq_true rfl⟩) (fun r hr => ?_)
        subst hr
        exact W.lret hx hb hr (fun t ht hW => ⟨_, rfl, hJ.trans hE.symm, ht⟩) (fun q h => absurd h List.not_mem_nil) dX4_leftOver_119
      · obtain ⟨n, rfl⟩ : ∃ k, n = k + 1 := by
            rw [Int32.le_iff_toInt_le] at cl
            have h0 : (0 : Int32).toInt = 0 := rfl
            exact ⟨n - 1, by omega⟩
        rw [jX4_leftOver_L_succ cl] at hJ
        refine lv_lload hx hb dX4_leftOver_72 (lv_at hl 1 rfl) ?_
        refine lv_iload hx hb dX4_leftOver_74 (lv_at hl 2 rfl) ?_
        refine lv_iload hx hb dX4_leftOver_76 (lv_at hl 0 rfl) ?_
        refine va_mmin hx hb (hml.trans hl.1.symm) hown (hts (.methodLink RX4 61 Lib.Math.min.name) (by decide +kernel)) (hts (.static Lib.Math.min.name) (by decide +kernel)) (hts (.initialized "java/lang/Math") (by decide +kernel)) (hts (.code Lib.Math.min.name Lib.Math.min.code 2 (some .int)) (by decide +kernel)) (Nat.le_of_ble_eq_true rfl) (Nat.le_of_ble_eq_true rfl) (Nat.zero_le _) (Nat.zero_le _) dX4_leftOver_78 ?_
        refine lv_lshl (v := (rs <<< ((if ap < y5 then ap else y5).toInt64 &&& 63))) hx hb dX4_leftOver_81 rfl ?_
        refine lv_lload hx hb dX4_leftOver_82 (lv_at hl 3 rfl) ?_
        refine lv_lrem hx hb dX4_leftOver_84 hby ?_
        refine lv_lstore (lv' := [(7, .long ((rs <<< ((if ap < y5 then ap else y5).toInt64 &&& 63)) - (rs <<< ((if ap < y5 then ap else y5).toInt64 &&& 63)) / y1 * y1)), (10, .int ap), (9, .int y5), (5, .long y1), (0, .int a0), (1, .long a1), (3, .long a3)]) hx hb dX4_leftOver_85 hl (by decide) rfl (fun ls hl => ?_)
        refine lv_iload hx hb dX4_leftOver_87 (lv_at hl 1 rfl) ?_
        refine lv_iload hx hb dX4_leftOver_89 (lv_at hl 2 rfl) ?_
        refine lv_isub hx hb dX4_leftOver_91 ?_
        refine lv_istore (lv' := [(10, .int (ap - y5)), (7, .long ((rs <<< ((if ap < y5 then ap else y5).toInt64 &&& 63)) - (rs <<< ((if ap < y5 then ap else y5).toInt64 &&& 63)) / y1 * y1)), (9, .int y5), (5, .long y1), (0, .int a0), (1, .long a1), (3, .long a3)]) hx hb dX4_leftOver_92 hl (by decide) rfl (fun ls hl => ?_)
        refine lv_goto (tgt := 67) hx hb dX4_leftOver_94 (by decide) ?_
        exact ih n (_, _, ls) rfl ⟨lv_sub hl [0, 1, 2, 3, 4, 5, 6] rfl, p_dec cl hn hst.1 hst.2, hJ⟩
    · have c3 := mt (lg_cmp_ge _ _).mpr c3
      rw [if_neg c3] at hJ
      refine lv_lload_n hx hb dX4_leftOver_28 rfl (lv_at hl 2 rfl) ?_
      exact W.lret hx hb hr (fun t ht hW => ⟨_, rfl, hJ.trans hE.symm, ht⟩) (fun q h => absurd h List.not_mem_nil) dX4_leftOver_29
