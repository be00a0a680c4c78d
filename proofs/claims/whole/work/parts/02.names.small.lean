set_option maxRecDepth 20000 in
theorem ggX0_init_X2_init : GoodIn wsX0_init wsX2_init := goodIn_r _ [5, 6, 7, 8, 9, 10, 11, 12, 13, 14, 15, 16, 17, 18, 19, 20, 21, 22] (by decide +kernel) (by decide +kernel)
set_option maxRecDepth 20000 in
theorem gX0_init_X2_init : GoodIn wsX0_init (wsX2_init) := ggX0_init_X2_init
theorem dX0_init_0 : decode cX0_init 0 = .ok (.aload_n 0, 1) := by decide +kernel
theorem dX0_init_1 : decode cX0_init 1 = .ok (.iload_n 1, 1) := by decide +kernel
theorem dX0_init_2 : decode cX0_init 2 = .ok (.lload_n 2, 1) := by decide +kernel
theorem dX0_init_3 : decode cX0_init 3 = .ok (.invokespecial 1, 3) := by decide +kernel
theorem dX0_init_6 : decode cX0_init 6 = .ok (.aload_n 0, 1) := by decide +kernel
theorem dX0_init_7 : decode cX0_init 7 = .ok (.iconst 1, 1) := by decide +kernel
theorem dX0_init_8 : decode cX0_init 8 = .ok (.putfield 7, 3) := by decide +kernel
theorem dX0_init_11 : decode cX0_init 11 = .ok (.return_, 1) := by decide +kernel
set_option maxRecDepth 20000 in
theorem ggX0_forceAt_X4_timesInt : GoodIn wsX0_forceAt wsX4_timesInt := goodIn_r _ [7, 8, 9, 10, 11, 12, 13, 6, 14, 15, 16, 17, 18, 19, 20, 21, 22, 23, 24, 25, 26, 27, 28, 29, 30, 31, 32, 33, 34, 35, 36, 37, 38, 39, 40, 41, 42, 43, 44, 45, 46, 47, 48, 49, 50, 51, 52, 53, 54, 55, 56, 57, 58, 59] (by decide +kernel) (by decide +kernel)
set_option maxRecDepth 20000 in
theorem gX0_forceAt_X4_timesInt : GoodIn wsX0_forceAt (va_wsS RX0 17 yX4_timesInt wsX4_timesInt) := goodIn_app (goodIn_of _ (by decide +kernel)) ggX0_forceAt_X4_timesInt
theorem dX0_forceAt_0 : decode cX0_forceAt 0 = .ok (.aload_n 0, 1) := by decide +kernel
theorem dX0_forceAt_1 : decode cX0_forceAt 1 = .ok (.getfield 13, 3) := by decide +kernel
theorem dX0_forceAt_4 : decode cX0_forceAt 4 = .ok (.aload_n 0, 1) := by decide +kernel
theorem dX0_forceAt_5 : decode cX0_forceAt 5 = .ok (.getfield 7, 3) := by decide +kernel
theorem dX0_forceAt_8 : decode cX0_forceAt 8 = .ok (.invokestatic 17, 3) := by decide +kernel
theorem dX0_forceAt_11 : decode cX0_forceAt 11 = .ok (.lreturn, 1) := by decide +kernel
theorem dX1_init_0 : decode cX1_init 0 = .ok (.aload_n 0, 1) := by decide +kernel
theorem dX1_init_1 : decode cX1_init 1 = .ok (.invokespecial 1, 3) := by decide +kernel
theorem dX1_init_4 : decode cX1_init 4 = .ok (.aload_n 0, 1) := by decide +kernel
theorem dX1_init_5 : decode cX1_init 5 = .ok (.lconst 0, 1) := by decide +kernel
theorem dX1_init_6 : decode cX1_init 6 = .ok (.putfield 7, 3) := by decide +kernel
theorem dX1_init_9 : decode cX1_init 9 = .ok (.aload_n 0, 1) := by decide +kernel
theorem dX1_init_10 : decode cX1_init 10 = .ok (.lconst 0, 1) := by decide +kernel
theorem dX1_init_11 : decode cX1_init 11 = .ok (.putfield 13, 3) := by decide +kernel
theorem dX1_init_14 : decode cX1_init 14 = .ok (.aload_n 0, 1) := by decide +kernel
theorem dX1_init_15 : decode cX1_init 15 = .ok (.iload_n 1, 1) := by decide +kernel
theorem dX1_init_16 : decode cX1_init 16 = .ok (.putfield 16, 3) := by decide +kernel
theorem dX1_init_19 : decode cX1_init 19 = .ok (.aload_n 0, 1) := by decide +kernel
theorem dX1_init_20 : decode cX1_init 20 = .ok (.lload_n 2, 1) := by decide +kernel
theorem dX1_init_21 : decode cX1_init 21 = .ok (.putfield 20, 3) := by decide +kernel
theorem dX1_init_24 : decode cX1_init 24 = .ok (.return_, 1) := by decide +kernel
set_option maxRecDepth 20000 in
theorem ggX1_turnBy_X4_sum : GoodIn wsX1_turnBy wsX4_sum := goodIn_r _ [8, 9, 10, 7, 11, 12, 13, 14, 15, 16, 17, 18, 19, 20, 21, 22, 23, 24, 25, 26, 27, 28, 29, 30, 31, 32, 33, 34, 35, 36, 37, 38, 39, 40, 41, 42, 43, 44, 45, 46, 47, 48, 49, 50, 51, 52, 53, 54, 55, 56, 57, 58, 59, 60, 61, 62, 63] (by decide +kernel) (by decide +kernel)
set_option maxRecDepth 20000 in
theorem gX1_turnBy_X4_sum : GoodIn wsX1_turnBy (va_wsS RX1 23 yX4_sum wsX4_sum) := goodIn_app (goodIn_of _ (by decide +kernel)) ggX1_turnBy_X4_sum
set_option maxRecDepth 20000 in
theorem ggX1_turnBy_X4_isFit : GoodIn wsX1_turnBy wsX4_isFit := goodIn_r _ [66, 9, 10, 7, 11, 12, 13, 56, 57, 58, 59, 60] (by decide +kernel) (by decide +kernel)
set_option maxRecDepth 20000 in
theorem gX1_turnBy_X4_isFit : GoodIn wsX1_turnBy (va_wsS RX1 29 yX4_isFit wsX4_isFit) := goodIn_app (goodIn_of _ (by decide +kernel)) ggX1_turnBy_X4_isFit
set_option maxRecDepth 20000 in
theorem ggX1_turnBy_X4_quotient : GoodIn wsX1_turnBy wsX4_quotient := goodIn_r _ [69, 14, 15, 7, 16, 17, 18, 19, 9, 10, 11, 12, 13, 39, 40, 41, 42, 43, 44, 45, 46, 47, 48, 49, 50, 51, 52, 53, 54, 55, 20, 21, 22, 23, 24, 25, 26, 27, 28, 29, 33, 34, 35, 36, 37, 38, 56, 57, 58, 59, 60, 61, 62, 63] (by decide +kernel) (by decide +kernel)
set_option maxRecDepth 20000 in
theorem gX1_turnBy_X4_quotient : GoodIn wsX1_turnBy (va_wsS RX1 33 yX4_quotient wsX4_quotient) := goodIn_app (goodIn_of _ (by decide +kernel)) ggX1_turnBy_X4_quotient
set_option maxRecDepth 20000 in
theorem ggX1_turnBy_X4_cutToLong : GoodIn wsX1_turnBy wsX4_cutToLong := goodIn_r _ [72, 42, 12, 14, 15, 7, 16, 17, 18, 19, 9, 10, 11, 13, 20, 21, 22, 23, 24, 25, 26, 27, 28, 29, 44, 45, 46, 47, 48, 49, 50, 51, 52, 53, 54, 55] (by decide +kernel) (by decide +kernel)
set_option maxRecDepth 20000 in
theorem gX1_turnBy_X4_cutToLong : GoodIn wsX1_turnBy (va_wsS RX1 36 yX4_cutToLong wsX4_cutToLong) := goodIn_app (goodIn_of _ (by decide +kernel)) ggX1_turnBy_X4_cutToLong
set_option maxRecDepth 20000 in
theorem ggX1_turnBy_X4_leftOver : GoodIn wsX1_turnBy wsX4_leftOver := goodIn_r _ [75, 23, 24, 25, 26, 76, 77, 78, 14, 15, 7, 16, 17, 18, 19, 9, 10, 11, 12, 13, 47, 48, 49, 50, 51, 52, 53, 54, 55, 20, 21, 22, 27, 28, 29, 36, 37, 38, 39, 40, 41, 42, 43, 44, 45, 46, 56, 57, 58, 59, 60, 61, 62, 63] (by decide +kernel) (by decide +kernel)
set_option maxRecDepth 20000 in
theorem gX1_turnBy_X4_leftOver : GoodIn wsX1_turnBy (va_wsS RX1 40 yX4_leftOver wsX4_leftOver) := goodIn_app (goodIn_of _ (by decide +kernel)) ggX1_turnBy_X4_leftOver
theorem dX1_turnBy_0 : decode cX1_turnBy 0 = .ok (.aload_n 0, 1) := by decide +kernel
theorem dX1_turnBy_1 : decode cX1_turnBy 1 = .ok (.getfield 16, 3) := by decide +kernel
theorem dX1_turnBy_4 : decode cX1_turnBy 4 = .ok (.aload_n 0, 1) := by decide +kernel
theorem dX1_turnBy_5 : decode cX1_turnBy 5 = .ok (.getfield 7, 3) := by decide +kernel
theorem dX1_turnBy_8 : decode cX1_turnBy 8 = .ok (.lload_n 1, 1) := by decide +kernel
theorem dX1_turnBy_9 : decode cX1_turnBy 9 = .ok (.invokestatic 23, 3) := by decide +kernel
theorem dX1_turnBy_12 : decode cX1_turnBy 12 = .ok (.lstore_n 3, 1) := by decide +kernel
theorem dX1_turnBy_13 : decode cX1_turnBy 13 = .ok (.aload_n 0, 1) := by decide +kernel
theorem dX1_turnBy_14 : decode cX1_turnBy 14 = .ok (.getfield 16, 3) := by decide +kernel
theorem dX1_turnBy_17 : decode cX1_turnBy 17 = .ok (.lload_n 3, 1) := by decide +kernel
theorem dX1_turnBy_18 : decode cX1_turnBy 18 = .ok (.invokestatic 29, 3) := by decide +kernel
theorem dX1_turnBy_21 : decode cX1_turnBy 21 = .ok (.ifCond .ne 5, 3) := by decide +kernel
theorem dX1_turnBy_24 : decode cX1_turnBy 24 = .ok (.iconst 0, 1) := by decide +kernel
theorem dX1_turnBy_25 : decode cX1_turnBy 25 = .ok (.ireturn, 1) := by decide +kernel
theorem dX1_turnBy_26 : decode cX1_turnBy 26 = .ok (.aload_n 0, 1) := by decide +kernel
theorem dX1_turnBy_27 : decode cX1_turnBy 27 = .ok (.dup, 1) := by decide +kernel
theorem dX1_turnBy_28 : decode cX1_turnBy 28 = .ok (.getfield 13, 3) := by decide +kernel
theorem dX1_turnBy_31 : decode cX1_turnBy 31 = .ok (.aload_n 0, 1) := by decide +kernel
theorem dX1_turnBy_32 : decode cX1_turnBy 32 = .ok (.getfield 16, 3) := by decide +kernel
theorem dX1_turnBy_35 : decode cX1_turnBy 35 = .ok (.aload_n 0, 1) := by decide +kernel
theorem dX1_turnBy_36 : decode cX1_turnBy 36 = .ok (.getfield 16, 3) := by decide +kernel
theorem dX1_turnBy_39 : decode cX1_turnBy 39 = .ok (.lload_n 3, 1) := by decide +kernel
theorem dX1_turnBy_40 : decode cX1_turnBy 40 = .ok (.aload_n 0, 1) := by decide +kernel
theorem dX1_turnBy_41 : decode cX1_turnBy 41 = .ok (.getfield 20, 3) := by decide +kernel
theorem dX1_turnBy_44 : decode cX1_turnBy 44 = .ok (.invokestatic 33, 3) := by decide +kernel
theorem dX1_turnBy_47 : decode cX1_turnBy 47 = .ok (.invokestatic 36, 3) := by decide +kernel
theorem dX1_turnBy_50 : decode cX1_turnBy 50 = .ok (.ladd, 1) := by decide +kernel
theorem dX1_turnBy_51 : decode cX1_turnBy 51 = .ok (.putfield 13, 3) := by decide +kernel
theorem dX1_turnBy_54 : decode cX1_turnBy 54 = .ok (.aload_n 0, 1) := by decide +kernel
theorem dX1_turnBy_55 : decode cX1_turnBy 55 = .ok (.aload_n 0, 1) := by decide +kernel
theorem dX1_turnBy_56 : decode cX1_turnBy 56 = .ok (.getfield 16, 3) := by decide +kernel
theorem dX1_turnBy_59 : decode cX1_turnBy 59 = .ok (.lload_n 3, 1) := by decide +kernel
theorem dX1_turnBy_60 : decode cX1_turnBy 60 = .ok (.aload_n 0, 1) := by decide +kernel
theorem dX1_turnBy_61 : decode cX1_turnBy 61 = .ok (.getfield 20, 3) := by decide +kernel
theorem dX1_turnBy_64 : decode cX1_turnBy 64 = .ok (.invokestatic 40, 3) := by decide +kernel
theorem dX1_turnBy_67 : decode cX1_turnBy 67 = .ok (.putfield 7, 3) := by decide +kernel
theorem dX1_turnBy_70 : decode cX1_turnBy 70 = .ok (.iconst 1, 1) := by decide +kernel
theorem dX1_turnBy_71 : decode cX1_turnBy 71 = .ok (.ireturn, 1) := by decide +kernel
theorem dX2_init_0 : decode cX2_init 0 = .ok (.aload_n 0, 1) := by decide +kernel
theorem dX2_init_1 : decode cX2_init 1 = .ok (.invokespecial 1, 3) := by decide +kernel
theorem dX2_init_4 : decode cX2_init 4 = .ok (.aload_n 0, 1) := by decide +kernel
theorem dX2_init_5 : decode cX2_init 5 = .ok (.iconst 0, 1) := by decide +kernel
theorem dX2_init_6 : decode cX2_init 6 = .ok (.putfield 7, 3) := by decide +kernel
theorem dX2_init_9 : decode cX2_init 9 = .ok (.aload_n 0, 1) := by decide +kernel
theorem dX2_init_10 : decode cX2_init 10 = .ok (.iload_n 1, 1) := by decide +kernel
theorem dX2_init_11 : decode cX2_init 11 = .ok (.putfield 13, 3) := by decide +kernel
theorem dX2_init_14 : decode cX2_init 14 = .ok (.aload_n 0, 1) := by decide +kernel
theorem dX2_init_15 : decode cX2_init 15 = .ok (.lload_n 2, 1) := by decide +kernel
theorem dX2_init_16 : decode cX2_init 16 = .ok (.putfield 16, 3) := by decide +kernel
theorem dX2_init_19 : decode cX2_init 19 = .ok (.return_, 1) := by decide +kernel
set_option maxRecDepth 20000 in
theorem ggX2_pullAt_X4_ofReal : GoodIn wsX2_pullAt wsX4_ofReal := goodIn_r _ [7, 8, 9, 6, 10, 11, 12, 13, 14, 15, 16, 17, 18, 19, 20, 21, 22, 23, 24, 25, 26, 27, 28, 29, 30, 31, 32, 33, 34, 35, 36, 37, 38, 39, 40, 41, 42, 43, 44, 45, 46, 47, 48, 49, 50, 51, 52, 53, 54, 55, 56, 57, 58, 59] (by decide +kernel) (by decide +kernel)
set_option maxRecDepth 20000 in
theorem gX2_pullAt_X4_ofReal : GoodIn wsX2_pullAt (va_wsS RX2 29 yX4_ofReal wsX4_ofReal) := goodIn_app (goodIn_of _ (by decide +kernel)) ggX2_pullAt_X4_ofReal
set_option maxRecDepth 20000 in
theorem ggX2_pullAt_X0_forceAt : GoodIn wsX2_pullAt wsX0_forceAt := goodIn_r _ [65, 66, 67, 68, 69, 70, 6, 71, 72, 73, 37, 74, 26, 27, 28, 29, 30, 31, 11, 12, 13, 14, 15, 32, 33, 34, 35, 36, 38, 39, 40, 41, 42, 43, 44, 21, 22, 23, 24, 25, 45, 46, 47, 48, 49, 50, 51, 52, 53, 54, 55, 56, 16, 17, 18, 19, 20, 57, 58, 59, 134, 135, 136, 137, 138, 139, 140, 141, 142, 143, 144] (by decide +kernel) (by decide +kernel)
set_option maxRecDepth 20000 in
theorem gX2_pullAt_X0_forceAt_u35X0 : GoodIn wsX2_pullAt (va_wsU RX2 35 RX0 "OrreryDials$Drive" ⟨"OrreryDials$Drive", "forceAt", "(J)J"⟩ yX0_forceAt wsX0_forceAt) := goodIn_app (goodIn_of _ (by decide +kernel)) ggX2_pullAt_X0_forceAt
set_option maxRecDepth 20000 in
theorem ggX2_pullAt_X3_forceAt : GoodIn wsX2_pullAt wsX3_forceAt := goodIn_r _ [78, 79, 80, 81, 82, 83, 84, 85, 70, 6, 71, 72, 73, 37, 74, 26, 27, 28, 29, 30, 31, 11, 12, 13, 14, 15, 32, 33, 34, 35, 36, 38, 39, 40, 41, 42, 43, 44, 21, 22, 23, 24, 25, 45, 46, 47, 48, 49, 50, 51, 52, 53, 54, 55, 56, 16, 17, 18, 19, 20, 57, 58, 59, 86, 9, 10, 87, 88, 89, 90, 91, 92, 93, 94, 95, 134, 135, 136, 137, 138, 139, 140, 141, 142, 143, 144] (by decide +kernel) (by decide +kernel)
set_option maxRecDepth 20000 in
theorem gX2_pullAt_X3_forceAt_u35X3 : GoodIn wsX2_pullAt (va_wsU RX2 35 RX3 "OrreryDials$Drive" ⟨"OrreryDials$Drive", "forceAt", "(J)J"⟩ yX3_forceAt wsX3_forceAt) := goodIn_app (goodIn_of _ (by decide +kernel)) ggX2_pullAt_X3_forceAt
set_option maxRecDepth 20000 in
theorem ggX2_pullAt_X6_forceAt : GoodIn wsX2_pullAt wsX6_forceAt := goodIn_r _ [99, 100, 101, 102, 103, 6, 104, 24, 105, 88, 89, 11, 12, 13, 14, 15, 26, 27, 28, 29, 30, 31, 32, 33, 34, 35, 36, 37, 38, 39, 40, 41, 90, 91, 92, 93, 94, 95, 42, 43, 44, 21, 22, 23, 25, 45, 46, 47, 48, 49, 50, 51, 52, 53, 54, 55, 56, 16, 17, 18, 19, 20, 57, 58, 59, 134, 135, 136, 137, 138, 139, 140, 141, 142, 143, 144] (by decide +kernel) (by decide +kernel)
set_option maxRecDepth 20000 in
theorem gX2_pullAt_X6_forceAt_u35X6 : GoodIn wsX2_pullAt (va_wsU RX2 35 RX6 "OrreryDials$Drive" ⟨"OrreryDials$Drive", "forceAt", "(J)J"⟩ yX6_forceAt wsX6_forceAt) := goodIn_app (goodIn_of _ (by decide +kernel)) ggX2_pullAt_X6_forceAt
set_option maxRecDepth 20000 in
theorem ggX2_pullAt_X4_isFit : GoodIn wsX2_pullAt wsX4_isFit := goodIn_r _ [10, 11, 12, 6, 13, 14, 15, 16, 17, 18, 19, 20] (by decide +kernel) (by decide +kernel)
set_option maxRecDepth 20000 in
theorem gX2_pullAt_X4_isFit : GoodIn wsX2_pullAt (va_wsS RX2 39 yX4_isFit wsX4_isFit) := goodIn_app (goodIn_of _ (by decide +kernel)) ggX2_pullAt_X4_isFit
set_option maxRecDepth 20000 in
theorem ggX2_pullAt_X1_turnBy : GoodIn wsX2_pullAt wsX1_turnBy := goodIn_r _ [111, 112, 113, 114, 115, 116, 88, 6, 89, 11, 12, 13, 14, 15, 26, 27, 28, 29, 30, 31, 32, 33, 34, 35, 36, 37, 38, 39, 40, 41, 90, 91, 92, 93, 94, 95, 42, 43, 44, 21, 22, 23, 24, 25, 45, 46, 47, 48, 49, 50, 51, 52, 53, 54, 55, 56, 16, 17, 18, 19, 20, 57, 58, 59, 117, 9, 10, 118, 119, 120, 121, 122, 123, 124, 125, 126, 127, 128, 129, 130, 131, 132, 133] (by decide +kernel) (by decide +kernel)
set_option maxRecDepth 20000 in
theorem gX2_pullAt_X1_turnBy : GoodIn wsX2_pullAt (wsV RX2 43 RX1 yX1_turnBy wsX1_turnBy) := goodIn_app (goodIn_of _ (by decide +kernel)) ggX2_pullAt_X1_turnBy
theorem dX2_pullAt_0 : decode cX2_pullAt 0 = .ok (.aload_n 0, 1) := by decide +kernel
theorem dX2_pullAt_1 : decode cX2_pullAt 1 = .ok (.aload_n 1, 1) := by decide +kernel
theorem dX2_pullAt_2 : decode cX2_pullAt 2 = .ok (.getfield 20, 3) := by decide +kernel
theorem dX2_pullAt_5 : decode cX2_pullAt 5 = .ok (.iconst 1, 1) := by decide +kernel
theorem dX2_pullAt_6 : decode cX2_pullAt 6 = .ok (.aload_n 1, 1) := by decide +kernel
theorem dX2_pullAt_7 : decode cX2_pullAt 7 = .ok (.getfield 26, 3) := by decide +kernel
theorem dX2_pullAt_10 : decode cX2_pullAt 10 = .ok (.invokestatic 29, 3) := by decide +kernel
theorem dX2_pullAt_13 : decode cX2_pullAt 13 = .ok (.invokevirtual 35, 3) := by decide +kernel
theorem dX2_pullAt_16 : decode cX2_pullAt 16 = .ok (.lstore_n 2, 1) := by decide +kernel
theorem dX2_pullAt_17 : decode cX2_pullAt 17 = .ok (.aload_n 0, 1) := by decide +kernel
theorem dX2_pullAt_18 : decode cX2_pullAt 18 = .ok (.dup, 1) := by decide +kernel
theorem dX2_pullAt_19 : decode cX2_pullAt 19 = .ok (.getfield 7, 3) := by decide +kernel
theorem dX2_pullAt_22 : decode cX2_pullAt 22 = .ok (.iconst 1, 1) := by decide +kernel
theorem dX2_pullAt_23 : decode cX2_pullAt 23 = .ok (.iadd, 1) := by decide +kernel
theorem dX2_pullAt_24 : decode cX2_pullAt 24 = .ok (.putfield 7, 3) := by decide +kernel
theorem dX2_pullAt_27 : decode cX2_pullAt 27 = .ok (.iconst 1, 1) := by decide +kernel
theorem dX2_pullAt_28 : decode cX2_pullAt 28 = .ok (.aload_n 1, 1) := by decide +kernel
theorem dX2_pullAt_29 : decode cX2_pullAt 29 = .ok (.getfield 20, 3) := by decide +kernel
theorem dX2_pullAt_32 : decode cX2_pullAt 32 = .ok (.lload_n 2, 1) := by decide +kernel
theorem dX2_pullAt_33 : decode cX2_pullAt 33 = .ok (.invokestatic 29, 3) := by decide +kernel
theorem dX2_pullAt_36 : decode cX2_pullAt 36 = .ok (.lstore 4, 2) := by decide +kernel
theorem dX2_pullAt_38 : decode cX2_pullAt 38 = .ok (.aload_n 1, 1) := by decide +kernel
theorem dX2_pullAt_39 : decode cX2_pullAt 39 = .ok (.getfield 20, 3) := by decide +kernel
theorem dX2_pullAt_42 : decode cX2_pullAt 42 = .ok (.lload 4, 2) := by decide +kernel
theorem dX2_pullAt_44 : decode cX2_pullAt 44 = .ok (.invokestatic 39, 3) := by decide +kernel
theorem dX2_pullAt_47 : decode cX2_pullAt 47 = .ok (.ifCond .eq 16, 3) := by decide +kernel
theorem dX2_pullAt_50 : decode cX2_pullAt 50 = .ok (.aload_n 1, 1) := by decide +kernel
theorem dX2_pullAt_51 : decode cX2_pullAt 51 = .ok (.lload 4, 2) := by decide +kernel
theorem dX2_pullAt_53 : decode cX2_pullAt 53 = .ok (.invokevirtual 43, 3) := by decide +kernel
theorem dX2_pullAt_56 : decode cX2_pullAt 56 = .ok (.ifCond .eq 7, 3) := by decide +kernel
theorem dX2_pullAt_59 : decode cX2_pullAt 59 = .ok (.iconst 1, 1) := by decide +kernel
theorem dX2_pullAt_60 : decode cX2_pullAt 60 = .ok (.goto 4, 3) := by decide +kernel
theorem dX2_pullAt_63 : decode cX2_pullAt 63 = .ok (.iconst 0, 1) := by decide +kernel
theorem dX2_pullAt_64 : decode cX2_pullAt 64 = .ok (.ireturn, 1) := by decide +kernel
set_option maxRecDepth 20000 in
theorem ggX3_init_X0_init : GoodIn wsX3_init wsX0_init := goodIn_r _ [4, 5, 6, 7, 8, 9, 10, 11, 12, 13, 14, 15, 16, 17, 18, 19, 20, 21, 22, 23, 24, 25, 26] (by decide +kernel) (by decide +kernel)
set_option maxRecDepth 20000 in
theorem gX3_init_X0_init : GoodIn wsX3_init (wsX0_init) := ggX3_init_X0_init
theorem dX3_init_0 : decode cX3_init 0 = .ok (.aload_n 0, 1) := by decide +kernel
theorem dX3_init_1 : decode cX3_init 1 = .ok (.iload_n 1, 1) := by decide +kernel
theorem dX3_init_2 : decode cX3_init 2 = .ok (.lload_n 2, 1) := by decide +kernel
theorem dX3_init_3 : decode cX3_init 3 = .ok (.invokespecial 1, 3) := by decide +kernel
theorem dX3_init_6 : decode cX3_init 6 = .ok (.return_, 1) := by decide +kernel
set_option maxRecDepth 20000 in
theorem ggX3_forceAt_X4_timesInt : GoodIn wsX3_forceAt wsX4_timesInt := goodIn_r _ [10, 11, 12, 13, 14, 15, 16, 9, 17, 18, 19, 20, 21, 22, 23, 24, 25, 26, 27, 28, 29, 30, 31, 32, 33, 34, 35, 36, 37, 38, 39, 40, 41, 42, 43, 44, 45, 46, 47, 48, 49, 50, 51, 52, 53, 54, 55, 56, 57, 58, 59, 60, 61, 62] (by decide +kernel) (by decide +kernel)
set_option maxRecDepth 20000 in
theorem gX3_forceAt_X4_timesInt : GoodIn wsX3_forceAt (va_wsS RX3 17 yX4_timesInt wsX4_timesInt) := goodIn_app (goodIn_of _ (by decide +kernel)) ggX3_forceAt_X4_timesInt
set_option maxRecDepth 20000 in
theorem ggX3_forceAt_X4_isFit : GoodIn wsX3_forceAt wsX4_isFit := goodIn_r _ [65, 21, 22, 9, 23, 24, 25, 55, 56, 57, 58, 59] (by decide +kernel) (by decide +kernel)
set_option maxRecDepth 20000 in
theorem gX3_forceAt_X4_isFit : GoodIn wsX3_forceAt (va_wsS RX3 23 yX4_isFit wsX4_isFit) := goodIn_app (goodIn_of _ (by decide +kernel)) ggX3_forceAt_X4_isFit
set_option maxRecDepth 20000 in
theorem ggX3_forceAt_X4_sum : GoodIn wsX3_forceAt wsX4_sum := goodIn_r _ [68, 21, 22, 9, 23, 24, 25, 15, 16, 17, 18, 19, 20, 26, 27, 28, 29, 30, 13, 31, 32, 33, 34, 69, 70, 71, 72, 73, 74, 35, 36, 37, 38, 39, 40, 41, 42, 43, 44, 45, 46, 47, 48, 49, 50, 51, 52, 53, 54, 55, 56, 57, 58, 59, 60, 61, 62] (by decide +kernel) (by decide +kernel)
set_option maxRecDepth 20000 in
theorem gX3_forceAt_X4_sum : GoodIn wsX3_forceAt (va_wsS RX3 30 yX4_sum wsX4_sum) := goodIn_app (goodIn_of _ (by decide +kernel)) ggX3_forceAt_X4_sum
theorem dX3_forceAt_0 : decode cX3_forceAt 0 = .ok (.aload_n 0, 1) := by decide +kernel
theorem dX3_forceAt_1 : decode cX3_forceAt 1 = .ok (.getfield 7, 3) := by decide +kernel
theorem dX3_forceAt_4 : decode cX3_forceAt 4 = .ok (.aload_n 0, 1) := by decide +kernel
theorem dX3_forceAt_5 : decode cX3_forceAt 5 = .ok (.getfield 13, 3) := by decide +kernel
theorem dX3_forceAt_8 : decode cX3_forceAt 8 = .ok (.invokestatic 17, 3) := by decide +kernel
theorem dX3_forceAt_11 : decode cX3_forceAt 11 = .ok (.lstore_n 3, 1) := by decide +kernel
theorem dX3_forceAt_12 : decode cX3_forceAt 12 = .ok (.iconst 1, 1) := by decide +kernel
theorem dX3_forceAt_13 : decode cX3_forceAt 13 = .ok (.lload_n 3, 1) := by decide +kernel
theorem dX3_forceAt_14 : decode cX3_forceAt 14 = .ok (.invokestatic 23, 3) := by decide +kernel
theorem dX3_forceAt_17 : decode cX3_forceAt 17 = .ok (.ifCond .ne 5, 3) := by decide +kernel
theorem dX3_forceAt_20 : decode cX3_forceAt 20 = .ok (.lload_n 3, 1) := by decide +kernel
theorem dX3_forceAt_21 : decode cX3_forceAt 21 = .ok (.lreturn, 1) := by decide +kernel
theorem dX3_forceAt_22 : decode cX3_forceAt 22 = .ok (.aload_n 0, 1) := by decide +kernel
theorem dX3_forceAt_23 : decode cX3_forceAt 23 = .ok (.getfield 7, 3) := by decide +kernel
theorem dX3_forceAt_26 : decode cX3_forceAt 26 = .ok (.aload_n 0, 1) := by decide +kernel
theorem dX3_forceAt_27 : decode cX3_forceAt 27 = .ok (.getfield 27, 3) := by decide +kernel
theorem dX3_forceAt_30 : decode cX3_forceAt 30 = .ok (.invokestatic 17, 3) := by decide +kernel
theorem dX3_forceAt_33 : decode cX3_forceAt 33 = .ok (.lstore 5, 2) := by decide +kernel
theorem dX3_forceAt_35 : decode cX3_forceAt 35 = .ok (.iconst 1, 1) := by decide +kernel
theorem dX3_forceAt_36 : decode cX3_forceAt 36 = .ok (.lload 5, 2) := by decide +kernel
theorem dX3_forceAt_38 : decode cX3_forceAt 38 = .ok (.invokestatic 23, 3) := by decide +kernel
theorem dX3_forceAt_41 : decode cX3_forceAt 41 = .ok (.ifCond .eq 13, 3) := by decide +kernel
theorem dX3_forceAt_44 : decode cX3_forceAt 44 = .ok (.iconst 1, 1) := by decide +kernel
theorem dX3_forceAt_45 : decode cX3_forceAt 45 = .ok (.lload_n 3, 1) := by decide +kernel
theorem dX3_forceAt_46 : decode cX3_forceAt 46 = .ok (.lload 5, 2) := by decide +kernel
theorem dX3_forceAt_48 : decode cX3_forceAt 48 = .ok (.invokestatic 30, 3) := by decide +kernel
theorem dX3_forceAt_51 : decode cX3_forceAt 51 = .ok (.goto 5, 3) := by decide +kernel
theorem dX3_forceAt_54 : decode cX3_forceAt 54 = .ok (.lload 5, 2) := by decide +kernel
theorem dX3_forceAt_56 : decode cX3_forceAt 56 = .ok (.lreturn, 1) := by decide +kernel
theorem dX4_told_0 : decode cX4_told 0 = .ok (.iload_n 0, 1) := by decide +kernel
theorem dX4_told_1 : decode cX4_told 1 = .ok (.ifCond .eq 7, 3) := by decide +kernel
theorem dX4_told_4 : decode cX4_told 4 = .ok (.lload_n 1, 1) := by decide +kernel
theorem dX4_told_5 : decode cX4_told 5 = .ok (.goto 6, 3) := by decide +kernel
theorem dX4_told_8 : decode cX4_told 8 = .ok (.lload_n 1, 1) := by decide +kernel
theorem dX4_told_9 : decode cX4_told 9 = .ok (.l2i, 1) := by decide +kernel
theorem dX4_told_10 : decode cX4_told 10 = .ok (.i2l, 1) := by decide +kernel
theorem dX4_told_11 : decode cX4_told 11 = .ok (.lreturn, 1) := by decide +kernel
set_option maxRecDepth 20000 in
theorem ggX4_isNumber_X4_sizeOf : GoodIn wsX4_isNumber wsX4_sizeOf := goodIn_r _ [4, 5, 6] (by decide +kernel) (by decide +kernel)
set_option maxRecDepth 20000 in
theorem gX4_isNumber_X4_sizeOf : GoodIn wsX4_isNumber (va_wsS RX4 7 yX4_sizeOf wsX4_sizeOf) := goodIn_app (goodIn_of _ (by decide +kernel)) ggX4_isNumber_X4_sizeOf
set_option maxRecDepth 20000 in
theorem ggX4_isNumber_X4_endless : GoodIn wsX4_isNumber wsX4_endless := goodIn_r _ [9, 10, 11] (by decide +kernel) (by decide +kernel)
set_option maxRecDepth 20000 in
theorem gX4_isNumber_X4_endless : GoodIn wsX4_isNumber (va_wsS RX4 13 yX4_endless wsX4_endless) := goodIn_app (goodIn_of _ (by decide +kernel)) ggX4_isNumber_X4_endless
theorem dX4_isNumber_0 : decode cX4_isNumber 0 = .ok (.iload_n 0, 1) := by decide +kernel
theorem dX4_isNumber_1 : decode cX4_isNumber 1 = .ok (.lload_n 1, 1) := by decide +kernel
theorem dX4_isNumber_2 : decode cX4_isNumber 2 = .ok (.invokestatic 7, 3) := by decide +kernel
theorem dX4_isNumber_5 : decode cX4_isNumber 5 = .ok (.iload_n 0, 1) := by decide +kernel
theorem dX4_isNumber_6 : decode cX4_isNumber 6 = .ok (.invokestatic 13, 3) := by decide +kernel
theorem dX4_isNumber_9 : decode cX4_isNumber 9 = .ok (.lcmp, 1) := by decide +kernel
theorem dX4_isNumber_10 : decode cX4_isNumber 10 = .ok (.ifCond .gt 7, 3) := by decide +kernel
theorem dX4_isNumber_13 : decode cX4_isNumber 13 = .ok (.iconst 1, 1) := by decide +kernel
theorem dX4_isNumber_14 : decode cX4_isNumber 14 = .ok (.goto 4, 3) := by decide +kernel
theorem dX4_isNumber_17 : decode cX4_isNumber 17 = .ok (.iconst 0, 1) := by decide +kernel
theorem dX4_isNumber_18 : decode cX4_isNumber 18 = .ok (.ireturn, 1) := by decide +kernel
set_option maxRecDepth 20000 in
theorem ggX4_isFit_X4_sizeOf : GoodIn wsX4_isFit wsX4_sizeOf := goodIn_r _ [4, 5, 6] (by decide +kernel) (by decide +kernel)
set_option maxRecDepth 20000 in
theorem gX4_isFit_X4_sizeOf : GoodIn wsX4_isFit (va_wsS RX4 7 yX4_sizeOf wsX4_sizeOf) := goodIn_app (goodIn_of _ (by decide +kernel)) ggX4_isFit_X4_sizeOf
set_option maxRecDepth 20000 in
theorem ggX4_isFit_X4_endless : GoodIn wsX4_isFit wsX4_endless := goodIn_r _ [9, 10, 11] (by decide +kernel) (by decide +kernel)
set_option maxRecDepth 20000 in
theorem gX4_isFit_X4_endless : GoodIn wsX4_isFit (va_wsS RX4 13 yX4_endless wsX4_endless) := goodIn_app (goodIn_of _ (by decide +kernel)) ggX4_isFit_X4_endless
theorem dX4_isFit_0 : decode cX4_isFit 0 = .ok (.iload_n 0, 1) := by decide +kernel
theorem dX4_isFit_1 : decode cX4_isFit 1 = .ok (.lload_n 1, 1) := by decide +kernel
theorem dX4_isFit_2 : decode cX4_isFit 2 = .ok (.invokestatic 7, 3) := by decide +kernel
theorem dX4_isFit_5 : decode cX4_isFit 5 = .ok (.iload_n 0, 1) := by decide +kernel
theorem dX4_isFit_6 : decode cX4_isFit 6 = .ok (.invokestatic 13, 3) := by decide +kernel
theorem dX4_isFit_9 : decode cX4_isFit 9 = .ok (.lcmp, 1) := by decide +kernel
theorem dX4_isFit_10 : decode cX4_isFit 10 = .ok (.ifCond .ge 7, 3) := by decide +kernel
theorem dX4_isFit_13 : decode cX4_isFit 13 = .ok (.iconst 1, 1) := by decide +kernel
theorem dX4_isFit_14 : decode cX4_isFit 14 = .ok (.goto 4, 3) := by decide +kernel
theorem dX4_isFit_17 : decode cX4_isFit 17 = .ok (.iconst 0, 1) := by decide +kernel
theorem dX4_isFit_18 : decode cX4_isFit 18 = .ok (.ireturn, 1) := by decide +kernel
set_option maxRecDepth 20000 in
theorem ggX4_isZero_X4_sizeOf : GoodIn wsX4_isZero wsX4_sizeOf := goodIn_r _ [4, 5, 6] (by decide +kernel) (by decide +kernel)
set_option maxRecDepth 20000 in
theorem gX4_isZero_X4_sizeOf : GoodIn wsX4_isZero (va_wsS RX4 7 yX4_sizeOf wsX4_sizeOf) := goodIn_app (goodIn_of _ (by decide +kernel)) ggX4_isZero_X4_sizeOf
theorem dX4_isZero_0 : decode cX4_isZero 0 = .ok (.iload_n 0, 1) := by decide +kernel
theorem dX4_isZero_1 : decode cX4_isZero 1 = .ok (.lload_n 1, 1) := by decide +kernel
theorem dX4_isZero_2 : decode cX4_isZero 2 = .ok (.invokestatic 7, 3) := by decide +kernel
theorem dX4_isZero_5 : decode cX4_isZero 5 = .ok (.lconst 0, 1) := by decide +kernel
theorem dX4_isZero_6 : decode cX4_isZero 6 = .ok (.lcmp, 1) := by decide +kernel
theorem dX4_isZero_7 : decode cX4_isZero 7 = .ok (.ifCond .ne 7, 3) := by decide +kernel
theorem dX4_isZero_10 : decode cX4_isZero 10 = .ok (.iconst 1, 1) := by decide +kernel
theorem dX4_isZero_11 : decode cX4_isZero 11 = .ok (.goto 4, 3) := by decide +kernel
theorem dX4_isZero_14 : decode cX4_isZero 14 = .ok (.iconst 0, 1) := by decide +kernel
theorem dX4_isZero_15 : decode cX4_isZero 15 = .ok (.ireturn, 1) := by decide +kernel
theorem dX4_negated_0 : decode cX4_negated 0 = .ok (.lload_n 0, 1) := by decide +kernel
theorem dX4_negated_1 : decode cX4_negated 1 = .ok (.ldc2_w 19, 3) := by decide +kernel
theorem dX4_negated_4 : decode cX4_negated 4 = .ok (.lxor, 1) := by decide +kernel
theorem dX4_negated_5 : decode cX4_negated 5 = .ok (.lreturn, 1) := by decide +kernel
set_option maxRecDepth 20000 in
theorem ggX4_sum_X4_sizeOf : GoodIn wsX4_sum wsX4_sizeOf := goodIn_r _ [4, 5, 6] (by decide +kernel) (by decide +kernel)
set_option maxRecDepth 20000 in
theorem gX4_sum_X4_sizeOf : GoodIn wsX4_sum (va_wsS RX4 7 yX4_sizeOf wsX4_sizeOf) := goodIn_app (goodIn_of _ (by decide +kernel)) ggX4_sum_X4_sizeOf
set_option maxRecDepth 20000 in
theorem ggX4_sum_X4_mantissa : GoodIn wsX4_sum wsX4_mantissa := goodIn_r _ [9, 10, 11, 3, 12, 1, 2, 4, 5, 6] (by decide +kernel) (by decide +kernel)
set_option maxRecDepth 20000 in
theorem gX4_sum_X4_mantissa : GoodIn wsX4_sum (va_wsS RX4 21 yX4_mantissa wsX4_mantissa) := goodIn_app (goodIn_of _ (by decide +kernel)) ggX4_sum_X4_mantissa
set_option maxRecDepth 20000 in
theorem ggX4_sum_X4_exponent : GoodIn wsX4_sum wsX4_exponent := goodIn_r _ [15, 16, 17, 18, 19, 1, 2, 3, 4, 5, 6, 10, 11, 12, 20, 21, 22] (by decide +kernel) (by decide +kernel)
set_option maxRecDepth 20000 in
theorem gX4_sum_X4_exponent : GoodIn wsX4_sum (va_wsS RX4 24 yX4_exponent wsX4_exponent) := goodIn_app (goodIn_of _ (by decide +kernel)) ggX4_sum_X4_exponent
set_option maxRecDepth 20000 in
theorem ggX4_sum_X4_shiftedOut : GoodIn wsX4_sum wsX4_shiftedOut := goodIn_r _ [25, 26, 27, 3, 28] (by decide +kernel) (by decide +kernel)
set_option maxRecDepth 20000 in
theorem gX4_sum_X4_shiftedOut : GoodIn wsX4_sum (va_wsS RX4 28 yX4_shiftedOut wsX4_shiftedOut) := goodIn_app (goodIn_of _ (by decide +kernel)) ggX4_sum_X4_shiftedOut
set_option maxRecDepth 20000 in
theorem ggX4_sum_X4_nearest : GoodIn wsX4_sum wsX4_nearest := goodIn_r _ [31, 16, 17, 18, 19, 32, 33, 3, 34, 35, 36, 20, 21, 22, 37, 38, 39, 40, 41, 42, 43, 44, 45, 46, 47, 48, 10, 11, 12, 49, 50, 51, 52, 53, 54, 55, 56] (by decide +kernel) (by decide +kernel)
set_option maxRecDepth 20000 in
theorem gX4_sum_X4_nearest : GoodIn wsX4_sum (va_wsS RX4 32 yX4_nearest wsX4_nearest) := goodIn_app (goodIn_of _ (by decide +kernel)) ggX4_sum_X4_nearest
theorem dX4_sum_0 : decode cX4_sum 0 = .ok (.iload_n 0, 1) := by decide +kernel
theorem dX4_sum_1 : decode cX4_sum 1 = .ok (.lload_n 1, 1) := by decide +kernel
theorem dX4_sum_2 : decode cX4_sum 2 = .ok (.invokestatic 7, 3) := by decide +kernel
theorem dX4_sum_5 : decode cX4_sum 5 = .ok (.iload_n 0, 1) := by decide +kernel
theorem dX4_sum_6 : decode cX4_sum 6 = .ok (.lload_n 3, 1) := by decide +kernel
theorem dX4_sum_7 : decode cX4_sum 7 = .ok (.invokestatic 7, 3) := by decide +kernel
theorem dX4_sum_10 : decode cX4_sum 10 = .ok (.lcmp, 1) := by decide +kernel
theorem dX4_sum_11 : decode cX4_sum 11 = .ok (.ifCond .lt 7, 3) := by decide +kernel
theorem dX4_sum_14 : decode cX4_sum 14 = .ok (.iconst 1, 1) := by decide +kernel
theorem dX4_sum_15 : decode cX4_sum 15 = .ok (.goto 4, 3) := by decide +kernel
theorem dX4_sum_18 : decode cX4_sum 18 = .ok (.iconst 0, 1) := by decide +kernel
theorem dX4_sum_19 : decode cX4_sum 19 = .ok (.istore 5, 2) := by decide +kernel
theorem dX4_sum_21 : decode cX4_sum 21 = .ok (.iload 5, 2) := by decide +kernel
theorem dX4_sum_23 : decode cX4_sum 23 = .ok (.ifCond .eq 7, 3) := by decide +kernel
theorem dX4_sum_26 : decode cX4_sum 26 = .ok (.lload_n 1, 1) := by decide +kernel
theorem dX4_sum_27 : decode cX4_sum 27 = .ok (.goto 4, 3) := by decide +kernel
theorem dX4_sum_30 : decode cX4_sum 30 = .ok (.lload_n 3, 1) := by decide +kernel
theorem dX4_sum_31 : decode cX4_sum 31 = .ok (.lstore 6, 2) := by decide +kernel
theorem dX4_sum_33 : decode cX4_sum 33 = .ok (.iload 5, 2) := by decide +kernel
theorem dX4_sum_35 : decode cX4_sum 35 = .ok (.ifCond .eq 7, 3) := by decide +kernel
theorem dX4_sum_38 : decode cX4_sum 38 = .ok (.lload_n 3, 1) := by decide +kernel
theorem dX4_sum_39 : decode cX4_sum 39 = .ok (.goto 4, 3) := by decide +kernel
theorem dX4_sum_42 : decode cX4_sum 42 = .ok (.lload_n 1, 1) := by decide +kernel
theorem dX4_sum_43 : decode cX4_sum 43 = .ok (.lstore 8, 2) := by decide +kernel
theorem dX4_sum_45 : decode cX4_sum 45 = .ok (.iload_n 0, 1) := by decide +kernel
theorem dX4_sum_46 : decode cX4_sum 46 = .ok (.lload 6, 2) := by decide +kernel
theorem dX4_sum_48 : decode cX4_sum 48 = .ok (.invokestatic 21, 3) := by decide +kernel
theorem dX4_sum_51 : decode cX4_sum 51 = .ok (.iconst 3, 1) := by decide +kernel
theorem dX4_sum_52 : decode cX4_sum 52 = .ok (.lshl, 1) := by decide +kernel
theorem dX4_sum_53 : decode cX4_sum 53 = .ok (.lstore 10, 2) := by decide +kernel
theorem dX4_sum_55 : decode cX4_sum 55 = .ok (.iload_n 0, 1) := by decide +kernel
theorem dX4_sum_56 : decode cX4_sum 56 = .ok (.lload 6, 2) := by decide +kernel
theorem dX4_sum_58 : decode cX4_sum 58 = .ok (.invokestatic 24, 3) := by decide +kernel
theorem dX4_sum_61 : decode cX4_sum 61 = .ok (.iload_n 0, 1) := by decide +kernel
theorem dX4_sum_62 : decode cX4_sum 62 = .ok (.lload 8, 2) := by decide +kernel
theorem dX4_sum_64 : decode cX4_sum 64 = .ok (.invokestatic 24, 3) := by decide +kernel
theorem dX4_sum_67 : decode cX4_sum 67 = .ok (.isub, 1) := by decide +kernel
theorem dX4_sum_68 : decode cX4_sum 68 = .ok (.istore 12, 2) := by decide +kernel
theorem dX4_sum_70 : decode cX4_sum 70 = .ok (.iload_n 0, 1) := by decide +kernel
theorem dX4_sum_71 : decode cX4_sum 71 = .ok (.lload 8, 2) := by decide +kernel
theorem dX4_sum_73 : decode cX4_sum 73 = .ok (.invokestatic 21, 3) := by decide +kernel
theorem dX4_sum_76 : decode cX4_sum 76 = .ok (.iconst 3, 1) := by decide +kernel
theorem dX4_sum_77 : decode cX4_sum 77 = .ok (.lshl, 1) := by decide +kernel
theorem dX4_sum_78 : decode cX4_sum 78 = .ok (.iload 12, 2) := by decide +kernel
theorem dX4_sum_80 : decode cX4_sum 80 = .ok (.invokestatic 28, 3) := by decide +kernel
theorem dX4_sum_83 : decode cX4_sum 83 = .ok (.lstore 13, 2) := by decide +kernel
theorem dX4_sum_85 : decode cX4_sum 85 = .ok (.lload 6, 2) := by decide +kernel
theorem dX4_sum_87 : decode cX4_sum 87 = .ok (.lconst 0, 1) := by decide +kernel
theorem dX4_sum_88 : decode cX4_sum 88 = .ok (.lcmp, 1) := by decide +kernel
theorem dX4_sum_89 : decode cX4_sum 89 = .ok (.ifCond .ge 7, 3) := by decide +kernel
theorem dX4_sum_92 : decode cX4_sum 92 = .ok (.iconst 1, 1) := by decide +kernel
theorem dX4_sum_93 : decode cX4_sum 93 = .ok (.goto 4, 3) := by decide +kernel
theorem dX4_sum_96 : decode cX4_sum 96 = .ok (.iconst 0, 1) := by decide +kernel
theorem dX4_sum_97 : decode cX4_sum 97 = .ok (.lload 8, 2) := by decide +kernel
theorem dX4_sum_99 : decode cX4_sum 99 = .ok (.lconst 0, 1) := by decide +kernel
theorem dX4_sum_100 : decode cX4_sum 100 = .ok (.lcmp, 1) := by decide +kernel
theorem dX4_sum_101 : decode cX4_sum 101 = .ok (.ifCond .ge 7, 3) := by decide +kernel
theorem dX4_sum_104 : decode cX4_sum 104 = .ok (.iconst 1, 1) := by decide +kernel
theorem dX4_sum_105 : decode cX4_sum 105 = .ok (.goto 4, 3) := by decide +kernel
theorem dX4_sum_108 : decode cX4_sum 108 = .ok (.iconst 0, 1) := by decide +kernel
theorem dX4_sum_109 : decode cX4_sum 109 = .ok (.if_icmp .ne 7, 3) := by decide +kernel
theorem dX4_sum_112 : decode cX4_sum 112 = .ok (.iconst 1, 1) := by decide +kernel
theorem dX4_sum_113 : decode cX4_sum 113 = .ok (.goto 4, 3) := by decide +kernel
theorem dX4_sum_116 : decode cX4_sum 116 = .ok (.iconst 0, 1) := by decide +kernel
theorem dX4_sum_117 : decode cX4_sum 117 = .ok (.istore 15, 2) := by decide +kernel
theorem dX4_sum_119 : decode cX4_sum 119 = .ok (.iload 15, 2) := by decide +kernel
theorem dX4_sum_121 : decode cX4_sum 121 = .ok (.ifCond .eq 11, 3) := by decide +kernel
theorem dX4_sum_124 : decode cX4_sum 124 = .ok (.lload 10, 2) := by decide +kernel
theorem dX4_sum_126 : decode cX4_sum 126 = .ok (.lload 13, 2) := by decide +kernel
theorem dX4_sum_128 : decode cX4_sum 128 = .ok (.ladd, 1) := by decide +kernel
theorem dX4_sum_129 : decode cX4_sum 129 = .ok (.goto 8, 3) := by decide +kernel
theorem dX4_sum_132 : decode cX4_sum 132 = .ok (.lload 10, 2) := by decide +kernel
theorem dX4_sum_134 : decode cX4_sum 134 = .ok (.lload 13, 2) := by decide +kernel
theorem dX4_sum_136 : decode cX4_sum 136 = .ok (.lsub, 1) := by decide +kernel
theorem dX4_sum_137 : decode cX4_sum 137 = .ok (.lstore 16, 2) := by decide +kernel
theorem dX4_sum_139 : decode cX4_sum 139 = .ok (.lload 6, 2) := by decide +kernel
theorem dX4_sum_141 : decode cX4_sum 141 = .ok (.lconst 0, 1) := by decide +kernel
theorem dX4_sum_142 : decode cX4_sum 142 = .ok (.lcmp, 1) := by decide +kernel
theorem dX4_sum_143 : decode cX4_sum 143 = .ok (.ifCond .ge 21, 3) := by decide +kernel
theorem dX4_sum_146 : decode cX4_sum 146 = .ok (.lload 16, 2) := by decide +kernel
theorem dX4_sum_148 : decode cX4_sum 148 = .ok (.lconst 0, 1) := by decide +kernel
theorem dX4_sum_149 : decode cX4_sum 149 = .ok (.lcmp, 1) := by decide +kernel
theorem dX4_sum_150 : decode cX4_sum 150 = .ok (.ifCond .ne 10, 3) := by decide +kernel
theorem dX4_sum_153 : decode cX4_sum 153 = .ok (.lload 8, 2) := by decide +kernel
theorem dX4_sum_155 : decode cX4_sum 155 = .ok (.lconst 0, 1) := by decide +kernel
theorem dX4_sum_156 : decode cX4_sum 156 = .ok (.lcmp, 1) := by decide +kernel
theorem dX4_sum_157 : decode cX4_sum 157 = .ok (.ifCond .ge 7, 3) := by decide +kernel
theorem dX4_sum_160 : decode cX4_sum 160 = .ok (.iconst 1, 1) := by decide +kernel
theorem dX4_sum_161 : decode cX4_sum 161 = .ok (.goto 4, 3) := by decide +kernel
theorem dX4_sum_164 : decode cX4_sum 164 = .ok (.iconst 0, 1) := by decide +kernel
theorem dX4_sum_165 : decode cX4_sum 165 = .ok (.istore 18, 2) := by decide +kernel
theorem dX4_sum_167 : decode cX4_sum 167 = .ok (.iload_n 0, 1) := by decide +kernel
theorem dX4_sum_168 : decode cX4_sum 168 = .ok (.iload 18, 2) := by decide +kernel
theorem dX4_sum_170 : decode cX4_sum 170 = .ok (.lload 16, 2) := by decide +kernel
theorem dX4_sum_172 : decode cX4_sum 172 = .ok (.iload_n 0, 1) := by decide +kernel
theorem dX4_sum_173 : decode cX4_sum 173 = .ok (.lload 6, 2) := by decide +kernel
theorem dX4_sum_175 : decode cX4_sum 175 = .ok (.invokestatic 24, 3) := by decide +kernel
theorem dX4_sum_178 : decode cX4_sum 178 = .ok (.iconst 3, 1) := by decide +kernel
theorem dX4_sum_179 : decode cX4_sum 179 = .ok (.isub, 1) := by decide +kernel
theorem dX4_sum_180 : decode cX4_sum 180 = .ok (.invokestatic 32, 3) := by decide +kernel
theorem dX4_sum_183 : decode cX4_sum 183 = .ok (.lreturn, 1) := by decide +kernel
set_option maxRecDepth 20000 in
theorem ggX4_quotient_X4_mantissa : GoodIn wsX4_quotient wsX4_mantissa := goodIn_r _ [4, 5, 6, 3, 7, 8, 9, 10, 11, 12] (by decide +kernel) (by decide +kernel)
set_option maxRecDepth 20000 in
theorem gX4_quotient_X4_mantissa : GoodIn wsX4_quotient (va_wsS RX4 21 yX4_mantissa wsX4_mantissa) := goodIn_app (goodIn_of _ (by decide +kernel)) ggX4_quotient_X4_mantissa
set_option maxRecDepth 20000 in
theorem ggX4_quotient_X4_signed : GoodIn wsX4_quotient wsX4_signed := goodIn_r _ [15, 16, 17] (by decide +kernel) (by decide +kernel)
set_option maxRecDepth 20000 in
theorem gX4_quotient_X4_signed : GoodIn wsX4_quotient (va_wsS RX4 36 yX4_signed wsX4_signed) := goodIn_app (goodIn_of _ (by decide +kernel)) ggX4_quotient_X4_signed
set_option maxRecDepth 20000 in
theorem ggX4_quotient_X4_lengthOf : GoodIn wsX4_quotient wsX4_lengthOf := goodIn_r _ [20, 21, 22, 23, 24, 25, 26, 27, 28, 29] (by decide +kernel) (by decide +kernel)
set_option maxRecDepth 20000 in
theorem gX4_quotient_X4_lengthOf : GoodIn wsX4_quotient (va_wsS RX4 40 yX4_lengthOf wsX4_lengthOf) := goodIn_app (goodIn_of _ (by decide +kernel)) ggX4_quotient_X4_lengthOf
set_option maxRecDepth 20000 in
theorem ggX4_quotient_X4_exponent : GoodIn wsX4_quotient wsX4_exponent := goodIn_r _ [32, 33, 34, 35, 36, 8, 9, 3, 10, 11, 12, 5, 6, 7, 37, 38, 39] (by decide +kernel) (by decide +kernel)
set_option maxRecDepth 20000 in
theorem gX4_quotient_X4_exponent : GoodIn wsX4_quotient (va_wsS RX4 24 yX4_exponent wsX4_exponent) := goodIn_app (goodIn_of _ (by decide +kernel)) ggX4_quotient_X4_exponent
set_option maxRecDepth 20000 in
theorem ggX4_quotient_X4_withMore : GoodIn wsX4_quotient wsX4_withMore := goodIn_r _ [42] (by decide +kernel) (by decide +kernel)
set_option maxRecDepth 20000 in
theorem gX4_quotient_X4_withMore : GoodIn wsX4_quotient (va_wsS RX4 44 yX4_withMore wsX4_withMore) := goodIn_app (goodIn_of _ (by decide +kernel)) ggX4_quotient_X4_withMore
set_option maxRecDepth 20000 in
theorem ggX4_quotient_X4_nearest : GoodIn wsX4_quotient wsX4_nearest := goodIn_r _ [45, 33, 34, 35, 36, 13, 14, 3, 15, 16, 17, 37, 38, 39, 18, 19, 20, 21, 22, 23, 24, 25, 26, 27, 28, 29, 5, 6, 7, 46, 47, 48, 49, 50, 51, 52, 53] (by decide +kernel) (by decide +kernel)
set_option maxRecDepth 20000 in
theorem gX4_quotient_X4_nearest : GoodIn wsX4_quotient (va_wsS RX4 32 yX4_nearest wsX4_nearest) := goodIn_app (goodIn_of _ (by decide +kernel)) ggX4_quotient_X4_nearest
theorem dX4_quotient_0 : decode cX4_quotient 0 = .ok (.lload_n 1, 1) := by decide +kernel
theorem dX4_quotient_1 : decode cX4_quotient 1 = .ok (.lconst 0, 1) := by decide +kernel
theorem dX4_quotient_2 : decode cX4_quotient 2 = .ok (.lcmp, 1) := by decide +kernel
theorem dX4_quotient_3 : decode cX4_quotient 3 = .ok (.ifCond .ge 7, 3) := by decide +kernel
theorem dX4_quotient_6 : decode cX4_quotient 6 = .ok (.iconst 1, 1) := by decide +kernel
theorem dX4_quotient_7 : decode cX4_quotient 7 = .ok (.goto 4, 3) := by decide +kernel
theorem dX4_quotient_10 : decode cX4_quotient 10 = .ok (.iconst 0, 1) := by decide +kernel
theorem dX4_quotient_11 : decode cX4_quotient 11 = .ok (.lload_n 3, 1) := by decide +kernel
theorem dX4_quotient_12 : decode cX4_quotient 12 = .ok (.lconst 0, 1) := by decide +kernel
theorem dX4_quotient_13 : decode cX4_quotient 13 = .ok (.lcmp, 1) := by decide +kernel
theorem dX4_quotient_14 : decode cX4_quotient 14 = .ok (.ifCond .ge 7, 3) := by decide +kernel
theorem dX4_quotient_17 : decode cX4_quotient 17 = .ok (.iconst 1, 1) := by decide +kernel
theorem dX4_quotient_18 : decode cX4_quotient 18 = .ok (.goto 4, 3) := by decide +kernel
theorem dX4_quotient_21 : decode cX4_quotient 21 = .ok (.iconst 0, 1) := by decide +kernel
theorem dX4_quotient_22 : decode cX4_quotient 22 = .ok (.if_icmp .eq 7, 3) := by decide +kernel
theorem dX4_quotient_25 : decode cX4_quotient 25 = .ok (.iconst 1, 1) := by decide +kernel
theorem dX4_quotient_26 : decode cX4_quotient 26 = .ok (.goto 4, 3) := by decide +kernel
theorem dX4_quotient_29 : decode cX4_quotient 29 = .ok (.iconst 0, 1) := by decide +kernel
theorem dX4_quotient_30 : decode cX4_quotient 30 = .ok (.istore 5, 2) := by decide +kernel
theorem dX4_quotient_32 : decode cX4_quotient 32 = .ok (.iload_n 0, 1) := by decide +kernel
theorem dX4_quotient_33 : decode cX4_quotient 33 = .ok (.lload_n 1, 1) := by decide +kernel
theorem dX4_quotient_34 : decode cX4_quotient 34 = .ok (.invokestatic 21, 3) := by decide +kernel
theorem dX4_quotient_37 : decode cX4_quotient 37 = .ok (.lstore 6, 2) := by decide +kernel
theorem dX4_quotient_39 : decode cX4_quotient 39 = .ok (.iload_n 0, 1) := by decide +kernel
theorem dX4_quotient_40 : decode cX4_quotient 40 = .ok (.lload_n 3, 1) := by decide +kernel
theorem dX4_quotient_41 : decode cX4_quotient 41 = .ok (.invokestatic 21, 3) := by decide +kernel
theorem dX4_quotient_44 : decode cX4_quotient 44 = .ok (.lstore 8, 2) := by decide +kernel
theorem dX4_quotient_46 : decode cX4_quotient 46 = .ok (.lload 6, 2) := by decide +kernel
theorem dX4_quotient_48 : decode cX4_quotient 48 = .ok (.lconst 0, 1) := by decide +kernel
theorem dX4_quotient_49 : decode cX4_quotient 49 = .ok (.lcmp, 1) := by decide +kernel
theorem dX4_quotient_50 : decode cX4_quotient 50 = .ok (.ifCond .eq 10, 3) := by decide +kernel
theorem dX4_quotient_53 : decode cX4_quotient 53 = .ok (.lload 8, 2) := by decide +kernel
theorem dX4_quotient_55 : decode cX4_quotient 55 = .ok (.lconst 0, 1) := by decide +kernel
theorem dX4_quotient_56 : decode cX4_quotient 56 = .ok (.lcmp, 1) := by decide +kernel
theorem dX4_quotient_57 : decode cX4_quotient 57 = .ok (.ifCond .ne 11, 3) := by decide +kernel
theorem dX4_quotient_60 : decode cX4_quotient 60 = .ok (.iload_n 0, 1) := by decide +kernel
theorem dX4_quotient_61 : decode cX4_quotient 61 = .ok (.iload 5, 2) := by decide +kernel
theorem dX4_quotient_63 : decode cX4_quotient 63 = .ok (.lconst 0, 1) := by decide +kernel
theorem dX4_quotient_64 : decode cX4_quotient 64 = .ok (.invokestatic 36, 3) := by decide +kernel
theorem dX4_quotient_67 : decode cX4_quotient 67 = .ok (.lreturn, 1) := by decide +kernel
theorem dX4_quotient_68 : decode cX4_quotient 68 = .ok (.bipush 53, 2) := by decide +kernel
theorem dX4_quotient_70 : decode cX4_quotient 70 = .ok (.lload 6, 2) := by decide +kernel
theorem dX4_quotient_72 : decode cX4_quotient 72 = .ok (.invokestatic 40, 3) := by decide +kernel
theorem dX4_quotient_75 : decode cX4_quotient 75 = .ok (.isub, 1) := by decide +kernel
theorem dX4_quotient_76 : decode cX4_quotient 76 = .ok (.istore 10, 2) := by decide +kernel
theorem dX4_quotient_78 : decode cX4_quotient 78 = .ok (.bipush 53, 2) := by decide +kernel
theorem dX4_quotient_80 : decode cX4_quotient 80 = .ok (.lload 8, 2) := by decide +kernel
theorem dX4_quotient_82 : decode cX4_quotient 82 = .ok (.invokestatic 40, 3) := by decide +kernel
theorem dX4_quotient_85 : decode cX4_quotient 85 = .ok (.isub, 1) := by decide +kernel
theorem dX4_quotient_86 : decode cX4_quotient 86 = .ok (.istore 11, 2) := by decide +kernel
theorem dX4_quotient_88 : decode cX4_quotient 88 = .ok (.lload 6, 2) := by decide +kernel
theorem dX4_quotient_90 : decode cX4_quotient 90 = .ok (.iload 10, 2) := by decide +kernel
theorem dX4_quotient_92 : decode cX4_quotient 92 = .ok (.lshl, 1) := by decide +kernel
theorem dX4_quotient_93 : decode cX4_quotient 93 = .ok (.lstore 6, 2) := by decide +kernel
theorem dX4_quotient_95 : decode cX4_quotient 95 = .ok (.lload 8, 2) := by decide +kernel
theorem dX4_quotient_97 : decode cX4_quotient 97 = .ok (.iload 11, 2) := by decide +kernel
theorem dX4_quotient_99 : decode cX4_quotient 99 = .ok (.lshl, 1) := by decide +kernel
theorem dX4_quotient_100 : decode cX4_quotient 100 = .ok (.lstore 8, 2) := by decide +kernel
theorem dX4_quotient_102 : decode cX4_quotient 102 = .ok (.lload 6, 2) := by decide +kernel
theorem dX4_quotient_104 : decode cX4_quotient 104 = .ok (.lload 8, 2) := by decide +kernel
theorem dX4_quotient_106 : decode cX4_quotient 106 = .ok (.ldiv, 1) := by decide +kernel
theorem dX4_quotient_107 : decode cX4_quotient 107 = .ok (.lstore 12, 2) := by decide +kernel
theorem dX4_quotient_109 : decode cX4_quotient 109 = .ok (.lload 6, 2) := by decide +kernel
theorem dX4_quotient_111 : decode cX4_quotient 111 = .ok (.lload 8, 2) := by decide +kernel
theorem dX4_quotient_113 : decode cX4_quotient 113 = .ok (.lrem, 1) := by decide +kernel
theorem dX4_quotient_114 : decode cX4_quotient 114 = .ok (.lstore 14, 2) := by decide +kernel
theorem dX4_quotient_116 : decode cX4_quotient 116 = .ok (.iconst 0, 1) := by decide +kernel
theorem dX4_quotient_117 : decode cX4_quotient 117 = .ok (.istore 16, 2) := by decide +kernel
theorem dX4_quotient_119 : decode cX4_quotient 119 = .ok (.iload 16, 2) := by decide +kernel
theorem dX4_quotient_121 : decode cX4_quotient 121 = .ok (.bipush 6, 2) := by decide +kernel
theorem dX4_quotient_123 : decode cX4_quotient 123 = .ok (.if_icmp .ge 36, 3) := by decide +kernel
theorem dX4_quotient_126 : decode cX4_quotient 126 = .ok (.lload 14, 2) := by decide +kernel
theorem dX4_quotient_128 : decode cX4_quotient 128 = .ok (.bipush 10, 2) := by decide +kernel
theorem dX4_quotient_130 : decode cX4_quotient 130 = .ok (.lshl, 1) := by decide +kernel
theorem dX4_quotient_131 : decode cX4_quotient 131 = .ok (.lstore 14, 2) := by decide +kernel
theorem dX4_quotient_133 : decode cX4_quotient 133 = .ok (.lload 12, 2) := by decide +kernel
theorem dX4_quotient_135 : decode cX4_quotient 135 = .ok (.bipush 10, 2) := by decide +kernel
theorem dX4_quotient_137 : decode cX4_quotient 137 = .ok (.lshl, 1) := by decide +kernel
theorem dX4_quotient_138 : decode cX4_quotient 138 = .ok (.lload 14, 2) := by decide +kernel
theorem dX4_quotient_140 : decode cX4_quotient 140 = .ok (.lload 8, 2) := by decide +kernel
theorem dX4_quotient_142 : decode cX4_quotient 142 = .ok (.ldiv, 1) := by decide +kernel
theorem dX4_quotient_143 : decode cX4_quotient 143 = .ok (.lor, 1) := by decide +kernel
theorem dX4_quotient_144 : decode cX4_quotient 144 = .ok (.lstore 12, 2) := by decide +kernel
theorem dX4_quotient_146 : decode cX4_quotient 146 = .ok (.lload 14, 2) := by decide +kernel
theorem dX4_quotient_148 : decode cX4_quotient 148 = .ok (.lload 8, 2) := by decide +kernel
theorem dX4_quotient_150 : decode cX4_quotient 150 = .ok (.lrem, 1) := by decide +kernel
theorem dX4_quotient_151 : decode cX4_quotient 151 = .ok (.lstore 14, 2) := by decide +kernel
theorem dX4_quotient_153 : decode cX4_quotient 153 = .ok (.iinc 16 1, 3) := by decide +kernel
theorem dX4_quotient_156 : decode cX4_quotient 156 = .ok (.goto (-37), 3) := by decide +kernel
theorem dX4_quotient_159 : decode cX4_quotient 159 = .ok (.iload_n 0, 1) := by decide +kernel
theorem dX4_quotient_160 : decode cX4_quotient 160 = .ok (.lload_n 1, 1) := by decide +kernel
theorem dX4_quotient_161 : decode cX4_quotient 161 = .ok (.invokestatic 24, 3) := by decide +kernel
theorem dX4_quotient_164 : decode cX4_quotient 164 = .ok (.iload 10, 2) := by decide +kernel
theorem dX4_quotient_166 : decode cX4_quotient 166 = .ok (.isub, 1) := by decide +kernel
theorem dX4_quotient_167 : decode cX4_quotient 167 = .ok (.iload_n 0, 1) := by decide +kernel
theorem dX4_quotient_168 : decode cX4_quotient 168 = .ok (.lload_n 3, 1) := by decide +kernel
theorem dX4_quotient_169 : decode cX4_quotient 169 = .ok (.invokestatic 24, 3) := by decide +kernel
theorem dX4_quotient_172 : decode cX4_quotient 172 = .ok (.isub, 1) := by decide +kernel
theorem dX4_quotient_173 : decode cX4_quotient 173 = .ok (.iload 11, 2) := by decide +kernel
theorem dX4_quotient_175 : decode cX4_quotient 175 = .ok (.iadd, 1) := by decide +kernel
theorem dX4_quotient_176 : decode cX4_quotient 176 = .ok (.istore 16, 2) := by decide +kernel
theorem dX4_quotient_178 : decode cX4_quotient 178 = .ok (.iload_n 0, 1) := by decide +kernel
theorem dX4_quotient_179 : decode cX4_quotient 179 = .ok (.iload 5, 2) := by decide +kernel
theorem dX4_quotient_181 : decode cX4_quotient 181 = .ok (.lload 12, 2) := by decide +kernel
theorem dX4_quotient_183 : decode cX4_quotient 183 = .ok (.lload 14, 2) := by decide +kernel
theorem dX4_quotient_185 : decode cX4_quotient 185 = .ok (.invokestatic 44, 3) := by decide +kernel
theorem dX4_quotient_188 : decode cX4_quotient 188 = .ok (.iload 16, 2) := by decide +kernel
theorem dX4_quotient_190 : decode cX4_quotient 190 = .ok (.bipush 60, 2) := by decide +kernel
theorem dX4_quotient_192 : decode cX4_quotient 192 = .ok (.isub, 1) := by decide +kernel
theorem dX4_quotient_193 : decode cX4_quotient 193 = .ok (.invokestatic 32, 3) := by decide +kernel
theorem dX4_quotient_196 : decode cX4_quotient 196 = .ok (.lreturn, 1) := by decide +kernel
set_option maxRecDepth 20000 in
theorem ggX4_timesInt_X4_mantissa : GoodIn wsX4_timesInt wsX4_mantissa := goodIn_r _ [8, 9, 10, 7, 11, 12, 13, 14, 15, 16] (by decide +kernel) (by decide +kernel)
set_option maxRecDepth 20000 in
theorem gX4_timesInt_X4_mantissa : GoodIn wsX4_timesInt (va_wsS RX4 21 yX4_mantissa wsX4_mantissa) := goodIn_app (goodIn_of _ (by decide +kernel)) ggX4_timesInt_X4_mantissa
set_option maxRecDepth 20000 in
theorem ggX4_timesInt_X4_exponent : GoodIn wsX4_timesInt wsX4_exponent := goodIn_r _ [19, 20, 21, 3, 22, 12, 13, 7, 14, 15, 16, 9, 10, 11, 23, 24, 25] (by decide +kernel) (by decide +kernel)
set_option maxRecDepth 20000 in
theorem gX4_timesInt_X4_exponent : GoodIn wsX4_timesInt (va_wsS RX4 24 yX4_exponent wsX4_exponent) := goodIn_app (goodIn_of _ (by decide +kernel)) ggX4_timesInt_X4_exponent
set_option maxRecDepth 20000 in
theorem ggX4_timesInt_X4_nearest : GoodIn wsX4_timesInt wsX4_nearest := goodIn_r _ [28, 20, 21, 3, 22, 29, 30, 7, 31, 32, 33, 23, 24, 25, 34, 35, 36, 37, 38, 39, 40, 41, 42, 43, 44, 45, 9, 10, 11, 46, 47, 48, 49, 50, 51, 52, 53] (by decide +kernel) (by decide +kernel)
set_option maxRecDepth 20000 in
theorem gX4_timesInt_X4_nearest : GoodIn wsX4_timesInt (va_wsS RX4 32 yX4_nearest wsX4_nearest) := goodIn_app (goodIn_of _ (by decide +kernel)) ggX4_timesInt_X4_nearest
theorem dX4_timesInt_0 : decode cX4_timesInt 0 = .ok (.lload_n 0, 1) := by decide +kernel
theorem dX4_timesInt_1 : decode cX4_timesInt 1 = .ok (.lconst 0, 1) := by decide +kernel
theorem dX4_timesInt_2 : decode cX4_timesInt 2 = .ok (.lcmp, 1) := by decide +kernel
theorem dX4_timesInt_3 : decode cX4_timesInt 3 = .ok (.ifCond .ge 7, 3) := by decide +kernel
theorem dX4_timesInt_6 : decode cX4_timesInt 6 = .ok (.iconst 1, 1) := by decide +kernel
theorem dX4_timesInt_7 : decode cX4_timesInt 7 = .ok (.goto 4, 3) := by decide +kernel
theorem dX4_timesInt_10 : decode cX4_timesInt 10 = .ok (.iconst 0, 1) := by decide +kernel
theorem dX4_timesInt_11 : decode cX4_timesInt 11 = .ok (.iload_n 2, 1) := by decide +kernel
theorem dX4_timesInt_12 : decode cX4_timesInt 12 = .ok (.ifCond .ge 7, 3) := by decide +kernel
theorem dX4_timesInt_15 : decode cX4_timesInt 15 = .ok (.iconst 1, 1) := by decide +kernel
theorem dX4_timesInt_16 : decode cX4_timesInt 16 = .ok (.goto 4, 3) := by decide +kernel
theorem dX4_timesInt_19 : decode cX4_timesInt 19 = .ok (.iconst 0, 1) := by decide +kernel
theorem dX4_timesInt_20 : decode cX4_timesInt 20 = .ok (.if_icmp .eq 7, 3) := by decide +kernel
theorem dX4_timesInt_23 : decode cX4_timesInt 23 = .ok (.iconst 1, 1) := by decide +kernel
theorem dX4_timesInt_24 : decode cX4_timesInt 24 = .ok (.goto 4, 3) := by decide +kernel
theorem dX4_timesInt_27 : decode cX4_timesInt 27 = .ok (.iconst 0, 1) := by decide +kernel
theorem dX4_timesInt_28 : decode cX4_timesInt 28 = .ok (.istore_n 3, 1) := by decide +kernel
theorem dX4_timesInt_29 : decode cX4_timesInt 29 = .ok (.iconst 1, 1) := by decide +kernel
theorem dX4_timesInt_30 : decode cX4_timesInt 30 = .ok (.iload_n 3, 1) := by decide +kernel
theorem dX4_timesInt_31 : decode cX4_timesInt 31 = .ok (.iconst 1, 1) := by decide +kernel
theorem dX4_timesInt_32 : decode cX4_timesInt 32 = .ok (.lload_n 0, 1) := by decide +kernel
theorem dX4_timesInt_33 : decode cX4_timesInt 33 = .ok (.invokestatic 21, 3) := by decide +kernel
theorem dX4_timesInt_36 : decode cX4_timesInt 36 = .ok (.iload_n 2, 1) := by decide +kernel
theorem dX4_timesInt_37 : decode cX4_timesInt 37 = .ok (.i2l, 1) := by decide +kernel
theorem dX4_timesInt_38 : decode cX4_timesInt 38 = .ok (.invokestatic 48, 3) := by decide +kernel
theorem dX4_timesInt_41 : decode cX4_timesInt 41 = .ok (.lmul, 1) := by decide +kernel
theorem dX4_timesInt_42 : decode cX4_timesInt 42 = .ok (.iconst 1, 1) := by decide +kernel
theorem dX4_timesInt_43 : decode cX4_timesInt 43 = .ok (.lload_n 0, 1) := by decide +kernel
theorem dX4_timesInt_44 : decode cX4_timesInt 44 = .ok (.invokestatic 24, 3) := by decide +kernel
theorem dX4_timesInt_47 : decode cX4_timesInt 47 = .ok (.invokestatic 32, 3) := by decide +kernel
theorem dX4_timesInt_50 : decode cX4_timesInt 50 = .ok (.lreturn, 1) := by decide +kernel
set_option maxRecDepth 20000 in
theorem ggX4_leftOver_X4_mantissa : GoodIn wsX4_leftOver wsX4_mantissa := goodIn_r _ [11, 12, 13, 10, 14, 15, 16, 17, 18, 19] (by decide +kernel) (by decide +kernel)
set_option maxRecDepth 20000 in
theorem gX4_leftOver_X4_mantissa : GoodIn wsX4_leftOver (va_wsS RX4 21 yX4_mantissa wsX4_mantissa) := goodIn_app (goodIn_of _ (by decide +kernel)) ggX4_leftOver_X4_mantissa
set_option maxRecDepth 20000 in
theorem ggX4_leftOver_X4_sizeOf : GoodIn wsX4_leftOver wsX4_sizeOf := goodIn_r _ [17, 18, 19] (by decide +kernel) (by decide +kernel)
set_option maxRecDepth 20000 in
theorem gX4_leftOver_X4_sizeOf : GoodIn wsX4_leftOver (va_wsS RX4 7 yX4_sizeOf wsX4_sizeOf) := goodIn_app (goodIn_of _ (by decide +kernel)) ggX4_leftOver_X4_sizeOf
set_option maxRecDepth 20000 in
theorem ggX4_leftOver_J13_numberOfLeadingZeros_95d88 : GoodIn wsX4_leftOver wsJ13_numberOfLeadingZeros_95d88 := goodIn_r _ [23, 24, 25, 26, 27, 28] (by decide +kernel) (by decide +kernel)
set_option maxRecDepth 20000 in
theorem gX4_leftOver_J13_numberOfLeadingZeros_95d88 : GoodIn wsX4_leftOver (va_wsS RX4 54 yJ13_numberOfLeadingZeros_95d88 wsJ13_numberOfLeadingZeros_95d88) := goodIn_app (goodIn_of _ (by decide +kernel)) ggX4_leftOver_J13_numberOfLeadingZeros_95d88
set_option maxRecDepth 20000 in
theorem ggX4_leftOver_X4_exponent : GoodIn wsX4_leftOver wsX4_exponent := goodIn_r _ [31, 1, 2, 3, 4, 15, 16, 10, 17, 18, 19, 12, 13, 14, 32, 33, 34] (by decide +kernel) (by decide +kernel)
set_option maxRecDepth 20000 in
theorem gX4_leftOver_X4_exponent : GoodIn wsX4_leftOver (va_wsS RX4 24 yX4_exponent wsX4_exponent) := goodIn_app (goodIn_of _ (by decide +kernel)) ggX4_leftOver_X4_exponent
set_option maxRecDepth 20000 in
theorem ggX4_leftOver_X4_nearest : GoodIn wsX4_leftOver wsX4_nearest := goodIn_r _ [37, 1, 2, 3, 4, 38, 39, 10, 40, 41, 42, 32, 33, 34, 43, 44, 45, 20, 21, 22, 23, 24, 25, 26, 27, 28, 12, 13, 14, 46, 47, 48, 49, 50, 51, 52, 53] (by decide +kernel) (by decide +kernel)
set_option maxRecDepth 20000 in
theorem gX4_leftOver_X4_nearest : GoodIn wsX4_leftOver (va_wsS RX4 32 yX4_nearest wsX4_nearest) := goodIn_app (goodIn_of _ (by decide +kernel)) ggX4_leftOver_X4_nearest
theorem dX4_leftOver_0 : decode cX4_leftOver 0 = .ok (.iload_n 0, 1) := by decide +kernel
theorem dX4_leftOver_1 : decode cX4_leftOver 1 = .ok (.lload_n 3, 1) := by decide +kernel
theorem dX4_leftOver_2 : decode cX4_leftOver 2 = .ok (.invokestatic 21, 3) := by decide +kernel
theorem dX4_leftOver_5 : decode cX4_leftOver 5 = .ok (.lstore 5, 2) := by decide +kernel
theorem dX4_leftOver_7 : decode cX4_leftOver 7 = .ok (.lload 5, 2) := by decide +kernel
theorem dX4_leftOver_9 : decode cX4_leftOver 9 = .ok (.lconst 0, 1) := by decide +kernel
theorem dX4_leftOver_10 : decode cX4_leftOver 10 = .ok (.lcmp, 1) := by decide +kernel
theorem dX4_leftOver_11 : decode cX4_leftOver 11 = .ok (.ifCond .eq 17, 3) := by decide +kernel
theorem dX4_leftOver_14 : decode cX4_leftOver 14 = .ok (.iload_n 0, 1) := by decide +kernel
theorem dX4_leftOver_15 : decode cX4_leftOver 15 = .ok (.lload_n 1, 1) := by decide +kernel
theorem dX4_leftOver_16 : decode cX4_leftOver 16 = .ok (.invokestatic 7, 3) := by decide +kernel
theorem dX4_leftOver_19 : decode cX4_leftOver 19 = .ok (.iload_n 0, 1) := by decide +kernel
theorem dX4_leftOver_20 : decode cX4_leftOver 20 = .ok (.lload_n 3, 1) := by decide +kernel
theorem dX4_leftOver_21 : decode cX4_leftOver 21 = .ok (.invokestatic 7, 3) := by decide +kernel
theorem dX4_leftOver_24 : decode cX4_leftOver 24 = .ok (.lcmp, 1) := by decide +kernel
theorem dX4_leftOver_25 : decode cX4_leftOver 25 = .ok (.ifCond .ge 5, 3) := by decide +kernel
theorem dX4_leftOver_28 : decode cX4_leftOver 28 = .ok (.lload_n 1, 1) := by decide +kernel
theorem dX4_leftOver_29 : decode cX4_leftOver 29 = .ok (.lreturn, 1) := by decide +kernel
theorem dX4_leftOver_30 : decode cX4_leftOver 30 = .ok (.iload_n 0, 1) := by decide +kernel
theorem dX4_leftOver_31 : decode cX4_leftOver 31 = .ok (.lload_n 1, 1) := by decide +kernel
theorem dX4_leftOver_32 : decode cX4_leftOver 32 = .ok (.invokestatic 21, 3) := by decide +kernel
theorem dX4_leftOver_35 : decode cX4_leftOver 35 = .ok (.lload 5, 2) := by decide +kernel
theorem dX4_leftOver_37 : decode cX4_leftOver 37 = .ok (.lrem, 1) := by decide +kernel
theorem dX4_leftOver_38 : decode cX4_leftOver 38 = .ok (.lstore 7, 2) := by decide +kernel
theorem dX4_leftOver_40 : decode cX4_leftOver 40 = .ok (.bipush 10, 2) := by decide +kernel
theorem dX4_leftOver_42 : decode cX4_leftOver 42 = .ok (.lload 5, 2) := by decide +kernel
theorem dX4_leftOver_44 : decode cX4_leftOver 44 = .ok (.invokestatic 54, 3) := by decide +kernel
theorem dX4_leftOver_47 : decode cX4_leftOver 47 = .ok (.iconst 1, 1) := by decide +kernel
theorem dX4_leftOver_48 : decode cX4_leftOver 48 = .ok (.isub, 1) := by decide +kernel
theorem dX4_leftOver_49 : decode cX4_leftOver 49 = .ok (.invokestatic 57, 3) := by decide +kernel
theorem dX4_leftOver_52 : decode cX4_leftOver 52 = .ok (.istore 9, 2) := by decide +kernel
theorem dX4_leftOver_54 : decode cX4_leftOver 54 = .ok (.iload_n 0, 1) := by decide +kernel
theorem dX4_leftOver_55 : decode cX4_leftOver 55 = .ok (.lload_n 1, 1) := by decide +kernel
theorem dX4_leftOver_56 : decode cX4_leftOver 56 = .ok (.invokestatic 24, 3) := by decide +kernel
theorem dX4_leftOver_59 : decode cX4_leftOver 59 = .ok (.iload_n 0, 1) := by decide +kernel
theorem dX4_leftOver_60 : decode cX4_leftOver 60 = .ok (.lload_n 3, 1) := by decide +kernel
theorem dX4_leftOver_61 : decode cX4_leftOver 61 = .ok (.invokestatic 24, 3) := by decide +kernel
theorem dX4_leftOver_64 : decode cX4_leftOver 64 = .ok (.isub, 1) := by decide +kernel
theorem dX4_leftOver_65 : decode cX4_leftOver 65 = .ok (.istore 10, 2) := by decide +kernel
theorem dX4_leftOver_67 : decode cX4_leftOver 67 = .ok (.iload 10, 2) := by decide +kernel
theorem dX4_leftOver_69 : decode cX4_leftOver 69 = .ok (.ifCond .le 28, 3) := by decide +kernel
theorem dX4_leftOver_72 : decode cX4_leftOver 72 = .ok (.lload 7, 2) := by decide +kernel
theorem dX4_leftOver_74 : decode cX4_leftOver 74 = .ok (.iload 9, 2) := by decide +kernel
theorem dX4_leftOver_76 : decode cX4_leftOver 76 = .ok (.iload 10, 2) := by decide +kernel
theorem dX4_leftOver_78 : decode cX4_leftOver 78 = .ok (.invokestatic 61, 3) := by decide +kernel
theorem dX4_leftOver_81 : decode cX4_leftOver 81 = .ok (.lshl, 1) := by decide +kernel
theorem dX4_leftOver_82 : decode cX4_leftOver 82 = .ok (.lload 5, 2) := by decide +kernel
theorem dX4_leftOver_84 : decode cX4_leftOver 84 = .ok (.lrem, 1) := by decide +kernel
theorem dX4_leftOver_85 : decode cX4_leftOver 85 = .ok (.lstore 7, 2) := by decide +kernel
theorem dX4_leftOver_87 : decode cX4_leftOver 87 = .ok (.iload 10, 2) := by decide +kernel
theorem dX4_leftOver_89 : decode cX4_leftOver 89 = .ok (.iload 9, 2) := by decide +kernel
theorem dX4_leftOver_91 : decode cX4_leftOver 91 = .ok (.isub, 1) := by decide +kernel
theorem dX4_leftOver_92 : decode cX4_leftOver 92 = .ok (.istore 10, 2) := by decide +kernel
theorem dX4_leftOver_94 : decode cX4_leftOver 94 = .ok (.goto (-27), 3) := by decide +kernel
theorem dX4_leftOver_97 : decode cX4_leftOver 97 = .ok (.iload_n 0, 1) := by decide +kernel
theorem dX4_leftOver_98 : decode cX4_leftOver 98 = .ok (.lload_n 1, 1) := by decide +kernel
theorem dX4_leftOver_99 : decode cX4_leftOver 99 = .ok (.lconst 0, 1) := by decide +kernel
theorem dX4_leftOver_100 : decode cX4_leftOver 100 = .ok (.lcmp, 1) := by decide +kernel
theorem dX4_leftOver_101 : decode cX4_leftOver 101 = .ok (.ifCond .ge 7, 3) := by decide +kernel
theorem dX4_leftOver_104 : decode cX4_leftOver 104 = .ok (.iconst 1, 1) := by decide +kernel
theorem dX4_leftOver_105 : decode cX4_leftOver 105 = .ok (.goto 4, 3) := by decide +kernel
theorem dX4_leftOver_108 : decode cX4_leftOver 108 = .ok (.iconst 0, 1) := by decide +kernel
theorem dX4_leftOver_109 : decode cX4_leftOver 109 = .ok (.lload 7, 2) := by decide +kernel
theorem dX4_leftOver_111 : decode cX4_leftOver 111 = .ok (.iload_n 0, 1) := by decide +kernel
theorem dX4_leftOver_112 : decode cX4_leftOver 112 = .ok (.lload_n 3, 1) := by decide +kernel
theorem dX4_leftOver_113 : decode cX4_leftOver 113 = .ok (.invokestatic 24, 3) := by decide +kernel
theorem dX4_leftOver_116 : decode cX4_leftOver 116 = .ok (.invokestatic 32, 3) := by decide +kernel
theorem dX4_leftOver_119 : decode cX4_leftOver 119 = .ok (.lreturn, 1) := by decide +kernel
set_option maxRecDepth 20000 in
theorem ggX4_ofLong_X4_nearest : GoodIn wsX4_ofLong wsX4_nearest := goodIn_r _ [8, 9, 10, 3, 11, 12, 13, 7, 14, 15, 16, 17, 18, 19, 20, 21, 22, 23, 24, 25, 26, 27, 28, 29, 30, 31, 32, 33, 34, 35, 36, 37, 38, 39, 40, 41, 42] (by decide +kernel) (by decide +kernel)
set_option maxRecDepth 20000 in
theorem gX4_ofLong_X4_nearest : GoodIn wsX4_ofLong (va_wsS RX4 32 yX4_nearest wsX4_nearest) := goodIn_app (goodIn_of _ (by decide +kernel)) ggX4_ofLong_X4_nearest
theorem dX4_ofLong_0 : decode cX4_ofLong 0 = .ok (.iload_n 0, 1) := by decide +kernel
theorem dX4_ofLong_1 : decode cX4_ofLong 1 = .ok (.lload_n 1, 1) := by decide +kernel
theorem dX4_ofLong_2 : decode cX4_ofLong 2 = .ok (.lconst 0, 1) := by decide +kernel
theorem dX4_ofLong_3 : decode cX4_ofLong 3 = .ok (.lcmp, 1) := by decide +kernel
theorem dX4_ofLong_4 : decode cX4_ofLong 4 = .ok (.ifCond .ge 7, 3) := by decide +kernel
theorem dX4_ofLong_7 : decode cX4_ofLong 7 = .ok (.iconst 1, 1) := by decide +kernel
theorem dX4_ofLong_8 : decode cX4_ofLong 8 = .ok (.goto 4, 3) := by decide +kernel
theorem dX4_ofLong_11 : decode cX4_ofLong 11 = .ok (.iconst 0, 1) := by decide +kernel
theorem dX4_ofLong_12 : decode cX4_ofLong 12 = .ok (.lload_n 1, 1) := by decide +kernel
theorem dX4_ofLong_13 : decode cX4_ofLong 13 = .ok (.invokestatic 48, 3) := by decide +kernel
theorem dX4_ofLong_16 : decode cX4_ofLong 16 = .ok (.iconst 0, 1) := by decide +kernel
theorem dX4_ofLong_17 : decode cX4_ofLong 17 = .ok (.invokestatic 32, 3) := by decide +kernel
theorem dX4_ofLong_20 : decode cX4_ofLong 20 = .ok (.lreturn, 1) := by decide +kernel
set_option maxRecDepth 20000 in
theorem ggX4_ofReal_X4_isFit : GoodIn wsX4_ofReal wsX4_isFit := goodIn_r _ [4, 5, 6, 3, 7, 8, 9, 10, 11, 12, 13, 14] (by decide +kernel) (by decide +kernel)
set_option maxRecDepth 20000 in
theorem gX4_ofReal_X4_isFit : GoodIn wsX4_ofReal (va_wsS RX4 64 yX4_isFit wsX4_isFit) := goodIn_app (goodIn_of _ (by decide +kernel)) ggX4_ofReal_X4_isFit
set_option maxRecDepth 20000 in
theorem ggX4_ofReal_X4_endless : GoodIn wsX4_ofReal wsX4_endless := goodIn_r _ [12, 13, 14] (by decide +kernel) (by decide +kernel)
set_option maxRecDepth 20000 in
theorem gX4_ofReal_X4_endless : GoodIn wsX4_ofReal (va_wsS RX4 13 yX4_endless wsX4_endless) := goodIn_app (goodIn_of _ (by decide +kernel)) ggX4_ofReal_X4_endless
set_option maxRecDepth 20000 in
theorem ggX4_ofReal_X4_signed : GoodIn wsX4_ofReal wsX4_signed := goodIn_r _ [17, 18, 19] (by decide +kernel) (by decide +kernel)
set_option maxRecDepth 20000 in
theorem gX4_ofReal_X4_signed : GoodIn wsX4_ofReal (va_wsS RX4 36 yX4_signed wsX4_signed) := goodIn_app (goodIn_of _ (by decide +kernel)) ggX4_ofReal_X4_signed
set_option maxRecDepth 20000 in
theorem ggX4_ofReal_X4_mantissa : GoodIn wsX4_ofReal wsX4_mantissa := goodIn_r _ [22, 23, 24, 3, 25, 5, 6, 7, 8, 9] (by decide +kernel) (by decide +kernel)
set_option maxRecDepth 20000 in
theorem gX4_ofReal_X4_mantissa : GoodIn wsX4_ofReal (va_wsS RX4 21 yX4_mantissa wsX4_mantissa) := goodIn_app (goodIn_of _ (by decide +kernel)) ggX4_ofReal_X4_mantissa
set_option maxRecDepth 20000 in
theorem ggX4_ofReal_X4_exponent : GoodIn wsX4_ofReal wsX4_exponent := goodIn_r _ [28, 29, 30, 31, 32, 5, 6, 3, 7, 8, 9, 23, 24, 25, 33, 34, 35] (by decide +kernel) (by decide +kernel)
set_option maxRecDepth 20000 in
theorem gX4_ofReal_X4_exponent : GoodIn wsX4_ofReal (va_wsS RX4 24 yX4_exponent wsX4_exponent) := goodIn_app (goodIn_of _ (by decide +kernel)) ggX4_ofReal_X4_exponent
set_option maxRecDepth 20000 in
theorem ggX4_ofReal_X4_nearest : GoodIn wsX4_ofReal wsX4_nearest := goodIn_r _ [38, 29, 30, 31, 32, 15, 16, 3, 17, 18, 19, 33, 34, 35, 39, 40, 41, 42, 43, 44, 45, 46, 47, 48, 49, 50, 23, 24, 25, 10, 11, 12, 13, 14, 51, 52, 53] (by decide +kernel) (by decide +kernel)
set_option maxRecDepth 20000 in
theorem gX4_ofReal_X4_nearest : GoodIn wsX4_ofReal (va_wsS RX4 32 yX4_nearest wsX4_nearest) := goodIn_app (goodIn_of _ (by decide +kernel)) ggX4_ofReal_X4_nearest
theorem dX4_ofReal_0 : decode cX4_ofReal 0 = .ok (.iload_n 0, 1) := by decide +kernel
theorem dX4_ofReal_1 : decode cX4_ofReal 1 = .ok (.lload_n 2, 1) := by decide +kernel
theorem dX4_ofReal_2 : decode cX4_ofReal 2 = .ok (.invokestatic 64, 3) := by decide +kernel
theorem dX4_ofReal_5 : decode cX4_ofReal 5 = .ok (.ifCond .ne 23, 3) := by decide +kernel
theorem dX4_ofReal_8 : decode cX4_ofReal 8 = .ok (.iload_n 1, 1) := by decide +kernel
theorem dX4_ofReal_9 : decode cX4_ofReal 9 = .ok (.lload_n 2, 1) := by decide +kernel
theorem dX4_ofReal_10 : decode cX4_ofReal 10 = .ok (.lconst 0, 1) := by decide +kernel
theorem dX4_ofReal_11 : decode cX4_ofReal 11 = .ok (.lcmp, 1) := by decide +kernel
theorem dX4_ofReal_12 : decode cX4_ofReal 12 = .ok (.ifCond .ge 7, 3) := by decide +kernel
theorem dX4_ofReal_15 : decode cX4_ofReal 15 = .ok (.iconst 1, 1) := by decide +kernel
theorem dX4_ofReal_16 : decode cX4_ofReal 16 = .ok (.goto 4, 3) := by decide +kernel
theorem dX4_ofReal_19 : decode cX4_ofReal 19 = .ok (.iconst 0, 1) := by decide +kernel
theorem dX4_ofReal_20 : decode cX4_ofReal 20 = .ok (.iload_n 1, 1) := by decide +kernel
theorem dX4_ofReal_21 : decode cX4_ofReal 21 = .ok (.invokestatic 13, 3) := by decide +kernel
theorem dX4_ofReal_24 : decode cX4_ofReal 24 = .ok (.invokestatic 36, 3) := by decide +kernel
theorem dX4_ofReal_27 : decode cX4_ofReal 27 = .ok (.lreturn, 1) := by decide +kernel
theorem dX4_ofReal_28 : decode cX4_ofReal 28 = .ok (.iload_n 1, 1) := by decide +kernel
theorem dX4_ofReal_29 : decode cX4_ofReal 29 = .ok (.lload_n 2, 1) := by decide +kernel
theorem dX4_ofReal_30 : decode cX4_ofReal 30 = .ok (.lconst 0, 1) := by decide +kernel
theorem dX4_ofReal_31 : decode cX4_ofReal 31 = .ok (.lcmp, 1) := by decide +kernel
theorem dX4_ofReal_32 : decode cX4_ofReal 32 = .ok (.ifCond .ge 7, 3) := by decide +kernel
theorem dX4_ofReal_35 : decode cX4_ofReal 35 = .ok (.iconst 1, 1) := by decide +kernel
theorem dX4_ofReal_36 : decode cX4_ofReal 36 = .ok (.goto 4, 3) := by decide +kernel
theorem dX4_ofReal_39 : decode cX4_ofReal 39 = .ok (.iconst 0, 1) := by decide +kernel
theorem dX4_ofReal_40 : decode cX4_ofReal 40 = .ok (.iload_n 0, 1) := by decide +kernel
theorem dX4_ofReal_41 : decode cX4_ofReal 41 = .ok (.lload_n 2, 1) := by decide +kernel
theorem dX4_ofReal_42 : decode cX4_ofReal 42 = .ok (.invokestatic 21, 3) := by decide +kernel
theorem dX4_ofReal_45 : decode cX4_ofReal 45 = .ok (.iload_n 0, 1) := by decide +kernel
theorem dX4_ofReal_46 : decode cX4_ofReal 46 = .ok (.lload_n 2, 1) := by decide +kernel
theorem dX4_ofReal_47 : decode cX4_ofReal 47 = .ok (.invokestatic 24, 3) := by decide +kernel
theorem dX4_ofReal_50 : decode cX4_ofReal 50 = .ok (.invokestatic 32, 3) := by decide +kernel
theorem dX4_ofReal_53 : decode cX4_ofReal 53 = .ok (.lreturn, 1) := by decide +kernel
set_option maxRecDepth 20000 in
theorem ggX4_cutToLong_X4_mantissa : GoodIn wsX4_cutToLong wsX4_mantissa := goodIn_r _ [6, 7, 8, 5, 9, 10, 11, 12, 2, 13] (by decide +kernel) (by decide +kernel)
set_option maxRecDepth 20000 in
theorem gX4_cutToLong_X4_mantissa : GoodIn wsX4_cutToLong (va_wsS RX4 21 yX4_mantissa wsX4_mantissa) := goodIn_app (goodIn_of _ (by decide +kernel)) ggX4_cutToLong_X4_mantissa
set_option maxRecDepth 20000 in
theorem ggX4_cutToLong_X4_exponent : GoodIn wsX4_cutToLong wsX4_exponent := goodIn_r _ [16, 17, 18, 19, 20, 10, 11, 5, 12, 2, 13, 7, 8, 9, 21, 22, 23] (by decide +kernel) (by decide +kernel)
set_option maxRecDepth 20000 in
theorem gX4_cutToLong_X4_exponent : GoodIn wsX4_cutToLong (va_wsS RX4 24 yX4_exponent wsX4_exponent) := goodIn_app (goodIn_of _ (by decide +kernel)) ggX4_cutToLong_X4_exponent
set_option maxRecDepth 20000 in
theorem ggX4_cutToLong_X4_lengthOf : GoodIn wsX4_cutToLong wsX4_lengthOf := goodIn_r _ [26, 27, 28, 29, 30, 31, 32, 33, 34, 35] (by decide +kernel) (by decide +kernel)
set_option maxRecDepth 20000 in
theorem gX4_cutToLong_X4_lengthOf : GoodIn wsX4_cutToLong (va_wsS RX4 40 yX4_lengthOf wsX4_lengthOf) := goodIn_app (goodIn_of _ (by decide +kernel)) ggX4_cutToLong_X4_lengthOf
theorem dX4_cutToLong_0 : decode cX4_cutToLong 0 = .ok (.iload_n 0, 1) := by decide +kernel
theorem dX4_cutToLong_1 : decode cX4_cutToLong 1 = .ok (.lload_n 1, 1) := by decide +kernel
theorem dX4_cutToLong_2 : decode cX4_cutToLong 2 = .ok (.invokestatic 21, 3) := by decide +kernel
theorem dX4_cutToLong_5 : decode cX4_cutToLong 5 = .ok (.lstore_n 3, 1) := by decide +kernel
theorem dX4_cutToLong_6 : decode cX4_cutToLong 6 = .ok (.iload_n 0, 1) := by decide +kernel
theorem dX4_cutToLong_7 : decode cX4_cutToLong 7 = .ok (.lload_n 1, 1) := by decide +kernel
theorem dX4_cutToLong_8 : decode cX4_cutToLong 8 = .ok (.invokestatic 24, 3) := by decide +kernel
theorem dX4_cutToLong_11 : decode cX4_cutToLong 11 = .ok (.istore 5, 2) := by decide +kernel
theorem dX4_cutToLong_13 : decode cX4_cutToLong 13 = .ok (.lload_n 3, 1) := by decide +kernel
theorem dX4_cutToLong_14 : decode cX4_cutToLong 14 = .ok (.invokestatic 40, 3) := by decide +kernel
theorem dX4_cutToLong_17 : decode cX4_cutToLong 17 = .ok (.iload 5, 2) := by decide +kernel
theorem dX4_cutToLong_19 : decode cX4_cutToLong 19 = .ok (.iadd, 1) := by decide +kernel
theorem dX4_cutToLong_20 : decode cX4_cutToLong 20 = .ok (.bipush 63, 2) := by decide +kernel
theorem dX4_cutToLong_22 : decode cX4_cutToLong 22 = .ok (.if_icmp .le 19, 3) := by decide +kernel
theorem dX4_cutToLong_25 : decode cX4_cutToLong 25 = .ok (.lload_n 1, 1) := by decide +kernel
theorem dX4_cutToLong_26 : decode cX4_cutToLong 26 = .ok (.lconst 0, 1) := by decide +kernel
theorem dX4_cutToLong_27 : decode cX4_cutToLong 27 = .ok (.lcmp, 1) := by decide +kernel
theorem dX4_cutToLong_28 : decode cX4_cutToLong 28 = .ok (.ifCond .ge 9, 3) := by decide +kernel
theorem dX4_cutToLong_31 : decode cX4_cutToLong 31 = .ok (.ldc2_w 19, 3) := by decide +kernel
theorem dX4_cutToLong_34 : decode cX4_cutToLong 34 = .ok (.goto 6, 3) := by decide +kernel
theorem dX4_cutToLong_37 : decode cX4_cutToLong 37 = .ok (.ldc2_w 68, 3) := by decide +kernel
theorem dX4_cutToLong_40 : decode cX4_cutToLong 40 = .ok (.lreturn, 1) := by decide +kernel
theorem dX4_cutToLong_41 : decode cX4_cutToLong 41 = .ok (.iload 5, 2) := by decide +kernel
theorem dX4_cutToLong_43 : decode cX4_cutToLong 43 = .ok (.bipush (-64), 2) := by decide +kernel
theorem dX4_cutToLong_45 : decode cX4_cutToLong 45 = .ok (.if_icmp .gt 5, 3) := by decide +kernel
theorem dX4_cutToLong_48 : decode cX4_cutToLong 48 = .ok (.lconst 0, 1) := by decide +kernel
theorem dX4_cutToLong_49 : decode cX4_cutToLong 49 = .ok (.lreturn, 1) := by decide +kernel
theorem dX4_cutToLong_50 : decode cX4_cutToLong 50 = .ok (.iload 5, 2) := by decide +kernel
theorem dX4_cutToLong_52 : decode cX4_cutToLong 52 = .ok (.ifCond .ge 11, 3) := by decide +kernel
theorem dX4_cutToLong_55 : decode cX4_cutToLong 55 = .ok (.lload_n 3, 1) := by decide +kernel
theorem dX4_cutToLong_56 : decode cX4_cutToLong 56 = .ok (.iload 5, 2) := by decide +kernel
theorem dX4_cutToLong_58 : decode cX4_cutToLong 58 = .ok (.ineg, 1) := by decide +kernel
theorem dX4_cutToLong_59 : decode cX4_cutToLong 59 = .ok (.lushr, 1) := by decide +kernel
theorem dX4_cutToLong_60 : decode cX4_cutToLong 60 = .ok (.goto 7, 3) := by decide +kernel
theorem dX4_cutToLong_63 : decode cX4_cutToLong 63 = .ok (.lload_n 3, 1) := by decide +kernel
theorem dX4_cutToLong_64 : decode cX4_cutToLong 64 = .ok (.iload 5, 2) := by decide +kernel
theorem dX4_cutToLong_66 : decode cX4_cutToLong 66 = .ok (.lshl, 1) := by decide +kernel
theorem dX4_cutToLong_67 : decode cX4_cutToLong 67 = .ok (.lstore 6, 2) := by decide +kernel
theorem dX4_cutToLong_69 : decode cX4_cutToLong 69 = .ok (.lload_n 1, 1) := by decide +kernel
theorem dX4_cutToLong_70 : decode cX4_cutToLong 70 = .ok (.lconst 0, 1) := by decide +kernel
theorem dX4_cutToLong_71 : decode cX4_cutToLong 71 = .ok (.lcmp, 1) := by decide +kernel
theorem dX4_cutToLong_72 : decode cX4_cutToLong 72 = .ok (.ifCond .ge 9, 3) := by decide +kernel
theorem dX4_cutToLong_75 : decode cX4_cutToLong 75 = .ok (.lload 6, 2) := by decide +kernel
theorem dX4_cutToLong_77 : decode cX4_cutToLong 77 = .ok (.lneg, 1) := by decide +kernel
theorem dX4_cutToLong_78 : decode cX4_cutToLong 78 = .ok (.goto 5, 3) := by decide +kernel
theorem dX4_cutToLong_81 : decode cX4_cutToLong 81 = .ok (.lload 6, 2) := by decide +kernel
theorem dX4_cutToLong_83 : decode cX4_cutToLong 83 = .ok (.lreturn, 1) := by decide +kernel
set_option maxRecDepth 20000 in
theorem ggX4_nearest_X4_signed : GoodIn wsX4_nearest wsX4_signed := goodIn_r _ [8, 9, 10] (by decide +kernel) (by decide +kernel)
set_option maxRecDepth 20000 in
theorem gX4_nearest_X4_signed : GoodIn wsX4_nearest (va_wsS RX4 36 yX4_signed wsX4_signed) := goodIn_app (goodIn_of _ (by decide +kernel)) ggX4_nearest_X4_signed
set_option maxRecDepth 20000 in
theorem ggX4_nearest_X4_leastExponent : GoodIn wsX4_nearest wsX4_leastExponent := goodIn_r _ [13] (by decide +kernel) (by decide +kernel)
set_option maxRecDepth 20000 in
theorem gX4_nearest_X4_leastExponent : GoodIn wsX4_nearest (va_wsS RX4 70 yX4_leastExponent wsX4_leastExponent) := goodIn_app (goodIn_of _ (by decide +kernel)) ggX4_nearest_X4_leastExponent
set_option maxRecDepth 20000 in
theorem ggX4_nearest_X4_lengthOf : GoodIn wsX4_nearest wsX4_lengthOf := goodIn_r _ [16, 17, 18, 19, 20, 21, 22, 23, 24, 25] (by decide +kernel) (by decide +kernel)
set_option maxRecDepth 20000 in
theorem gX4_nearest_X4_lengthOf : GoodIn wsX4_nearest (va_wsS RX4 40 yX4_lengthOf wsX4_lengthOf) := goodIn_app (goodIn_of _ (by decide +kernel)) ggX4_nearest_X4_lengthOf
set_option maxRecDepth 20000 in
theorem ggX4_nearest_X4_width : GoodIn wsX4_nearest wsX4_width := goodIn_r _ [28] (by decide +kernel) (by decide +kernel)
set_option maxRecDepth 20000 in
theorem gX4_nearest_X4_width : GoodIn wsX4_nearest (va_wsS RX4 74 yX4_width wsX4_width) := goodIn_app (goodIn_of _ (by decide +kernel)) ggX4_nearest_X4_width
set_option maxRecDepth 20000 in
theorem ggX4_nearest_X4_endless : GoodIn wsX4_nearest wsX4_endless := goodIn_r _ [31, 32, 33] (by decide +kernel) (by decide +kernel)
set_option maxRecDepth 20000 in
theorem gX4_nearest_X4_endless : GoodIn wsX4_nearest (va_wsS RX4 13 yX4_endless wsX4_endless) := goodIn_app (goodIn_of _ (by decide +kernel)) ggX4_nearest_X4_endless
set_option maxRecDepth 20000 in
theorem ggX4_nearest_X4_rounded : GoodIn wsX4_nearest wsX4_rounded := goodIn_r _ [36] (by decide +kernel) (by decide +kernel)
set_option maxRecDepth 20000 in
theorem gX4_nearest_X4_rounded : GoodIn wsX4_nearest (va_wsS RX4 77 yX4_rounded wsX4_rounded) := goodIn_app (goodIn_of _ (by decide +kernel)) ggX4_nearest_X4_rounded
theorem dX4_nearest_0 : decode cX4_nearest 0 = .ok (.lload_n 2, 1) := by decide +kernel
theorem dX4_nearest_1 : decode cX4_nearest 1 = .ok (.lconst 0, 1) := by decide +kernel
theorem dX4_nearest_2 : decode cX4_nearest 2 = .ok (.lcmp, 1) := by decide +kernel
theorem dX4_nearest_3 : decode cX4_nearest 3 = .ok (.ifCond .ne 10, 3) := by decide +kernel
theorem dX4_nearest_6 : decode cX4_nearest 6 = .ok (.iload_n 0, 1) := by decide +kernel
theorem dX4_nearest_7 : decode cX4_nearest 7 = .ok (.iload_n 1, 1) := by decide +kernel
theorem dX4_nearest_8 : decode cX4_nearest 8 = .ok (.lconst 0, 1) := by decide +kernel
theorem dX4_nearest_9 : decode cX4_nearest 9 = .ok (.invokestatic 36, 3) := by decide +kernel
theorem dX4_nearest_12 : decode cX4_nearest 12 = .ok (.lreturn, 1) := by decide +kernel
theorem dX4_nearest_13 : decode cX4_nearest 13 = .ok (.iload_n 0, 1) := by decide +kernel
theorem dX4_nearest_14 : decode cX4_nearest 14 = .ok (.invokestatic 70, 3) := by decide +kernel
theorem dX4_nearest_17 : decode cX4_nearest 17 = .ok (.istore 5, 2) := by decide +kernel
theorem dX4_nearest_19 : decode cX4_nearest 19 = .ok (.iload 4, 2) := by decide +kernel
theorem dX4_nearest_21 : decode cX4_nearest 21 = .ok (.lload_n 2, 1) := by decide +kernel
theorem dX4_nearest_22 : decode cX4_nearest 22 = .ok (.invokestatic 40, 3) := by decide +kernel
theorem dX4_nearest_25 : decode cX4_nearest 25 = .ok (.iadd, 1) := by decide +kernel
theorem dX4_nearest_26 : decode cX4_nearest 26 = .ok (.iconst 1, 1) := by decide +kernel
theorem dX4_nearest_27 : decode cX4_nearest 27 = .ok (.isub, 1) := by decide +kernel
theorem dX4_nearest_28 : decode cX4_nearest 28 = .ok (.iload_n 0, 1) := by decide +kernel
theorem dX4_nearest_29 : decode cX4_nearest 29 = .ok (.invokestatic 74, 3) := by decide +kernel
theorem dX4_nearest_32 : decode cX4_nearest 32 = .ok (.isub, 1) := by decide +kernel
theorem dX4_nearest_33 : decode cX4_nearest 33 = .ok (.iload 5, 2) := by decide +kernel
theorem dX4_nearest_35 : decode cX4_nearest 35 = .ok (.invokestatic 57, 3) := by decide +kernel
theorem dX4_nearest_38 : decode cX4_nearest 38 = .ok (.istore 6, 2) := by decide +kernel
theorem dX4_nearest_40 : decode cX4_nearest 40 = .ok (.iload_n 0, 1) := by decide +kernel
theorem dX4_nearest_41 : decode cX4_nearest 41 = .ok (.invokestatic 13, 3) := by decide +kernel
theorem dX4_nearest_44 : decode cX4_nearest 44 = .ok (.lstore 7, 2) := by decide +kernel
theorem dX4_nearest_46 : decode cX4_nearest 46 = .ok (.iload 6, 2) := by decide +kernel
theorem dX4_nearest_48 : decode cX4_nearest 48 = .ok (.iload 5, 2) := by decide +kernel
theorem dX4_nearest_50 : decode cX4_nearest 50 = .ok (.isub, 1) := by decide +kernel
theorem dX4_nearest_51 : decode cX4_nearest 51 = .ok (.i2l, 1) := by decide +kernel
theorem dX4_nearest_52 : decode cX4_nearest 52 = .ok (.lstore 9, 2) := by decide +kernel
theorem dX4_nearest_54 : decode cX4_nearest 54 = .ok (.lload 9, 2) := by decide +kernel
theorem dX4_nearest_56 : decode cX4_nearest 56 = .ok (.lconst 1, 1) := by decide +kernel
theorem dX4_nearest_57 : decode cX4_nearest 57 = .ok (.ladd, 1) := by decide +kernel
theorem dX4_nearest_58 : decode cX4_nearest 58 = .ok (.lload 7, 2) := by decide +kernel
theorem dX4_nearest_60 : decode cX4_nearest 60 = .ok (.iload_n 0, 1) := by decide +kernel
theorem dX4_nearest_61 : decode cX4_nearest 61 = .ok (.invokestatic 74, 3) := by decide +kernel
theorem dX4_nearest_64 : decode cX4_nearest 64 = .ok (.lushr, 1) := by decide +kernel
theorem dX4_nearest_65 : decode cX4_nearest 65 = .ok (.lcmp, 1) := by decide +kernel
theorem dX4_nearest_66 : decode cX4_nearest 66 = .ok (.ifCond .lt 11, 3) := by decide +kernel
theorem dX4_nearest_69 : decode cX4_nearest 69 = .ok (.iload_n 0, 1) := by decide +kernel
theorem dX4_nearest_70 : decode cX4_nearest 70 = .ok (.iload_n 1, 1) := by decide +kernel
theorem dX4_nearest_71 : decode cX4_nearest 71 = .ok (.lload 7, 2) := by decide +kernel
theorem dX4_nearest_73 : decode cX4_nearest 73 = .ok (.invokestatic 36, 3) := by decide +kernel
theorem dX4_nearest_76 : decode cX4_nearest 76 = .ok (.lreturn, 1) := by decide +kernel
theorem dX4_nearest_77 : decode cX4_nearest 77 = .ok (.lload 9, 2) := by decide +kernel
theorem dX4_nearest_79 : decode cX4_nearest 79 = .ok (.iload_n 0, 1) := by decide +kernel
theorem dX4_nearest_80 : decode cX4_nearest 80 = .ok (.invokestatic 74, 3) := by decide +kernel
theorem dX4_nearest_83 : decode cX4_nearest 83 = .ok (.lshl, 1) := by decide +kernel
theorem dX4_nearest_84 : decode cX4_nearest 84 = .ok (.lload_n 2, 1) := by decide +kernel
theorem dX4_nearest_85 : decode cX4_nearest 85 = .ok (.iload 6, 2) := by decide +kernel
theorem dX4_nearest_87 : decode cX4_nearest 87 = .ok (.iload 4, 2) := by decide +kernel
theorem dX4_nearest_89 : decode cX4_nearest 89 = .ok (.isub, 1) := by decide +kernel
theorem dX4_nearest_90 : decode cX4_nearest 90 = .ok (.invokestatic 77, 3) := by decide +kernel
theorem dX4_nearest_93 : decode cX4_nearest 93 = .ok (.ladd, 1) := by decide +kernel
theorem dX4_nearest_94 : decode cX4_nearest 94 = .ok (.lstore 11, 2) := by decide +kernel
theorem dX4_nearest_96 : decode cX4_nearest 96 = .ok (.iload_n 0, 1) := by decide +kernel
theorem dX4_nearest_97 : decode cX4_nearest 97 = .ok (.iload_n 1, 1) := by decide +kernel
theorem dX4_nearest_98 : decode cX4_nearest 98 = .ok (.lload 11, 2) := by decide +kernel
theorem dX4_nearest_100 : decode cX4_nearest 100 = .ok (.invokestatic 36, 3) := by decide +kernel
theorem dX4_nearest_103 : decode cX4_nearest 103 = .ok (.lreturn, 1) := by decide +kernel
theorem dX4_rounded_0 : decode cX4_rounded 0 = .ok (.iload_n 2, 1) := by decide +kernel
theorem dX4_rounded_1 : decode cX4_rounded 1 = .ok (.ifCond .gt 8, 3) := by decide +kernel
theorem dX4_rounded_4 : decode cX4_rounded 4 = .ok (.lload_n 0, 1) := by decide +kernel
theorem dX4_rounded_5 : decode cX4_rounded 5 = .ok (.iload_n 2, 1) := by decide +kernel
theorem dX4_rounded_6 : decode cX4_rounded 6 = .ok (.ineg, 1) := by decide +kernel
theorem dX4_rounded_7 : decode cX4_rounded 7 = .ok (.lshl, 1) := by decide +kernel
theorem dX4_rounded_8 : decode cX4_rounded 8 = .ok (.lreturn, 1) := by decide +kernel
theorem dX4_rounded_9 : decode cX4_rounded 9 = .ok (.iload_n 2, 1) := by decide +kernel
theorem dX4_rounded_10 : decode cX4_rounded 10 = .ok (.bipush 63, 2) := by decide +kernel
theorem dX4_rounded_12 : decode cX4_rounded 12 = .ok (.if_icmp .le 5, 3) := by decide +kernel
theorem dX4_rounded_15 : decode cX4_rounded 15 = .ok (.lconst 0, 1) := by decide +kernel
theorem dX4_rounded_16 : decode cX4_rounded 16 = .ok (.lreturn, 1) := by decide +kernel
theorem dX4_rounded_17 : decode cX4_rounded 17 = .ok (.lload_n 0, 1) := by decide +kernel
theorem dX4_rounded_18 : decode cX4_rounded 18 = .ok (.iload_n 2, 1) := by decide +kernel
theorem dX4_rounded_19 : decode cX4_rounded 19 = .ok (.lushr, 1) := by decide +kernel
theorem dX4_rounded_20 : decode cX4_rounded 20 = .ok (.lstore_n 3, 1) := by decide +kernel
theorem dX4_rounded_21 : decode cX4_rounded 21 = .ok (.lload_n 0, 1) := by decide +kernel
theorem dX4_rounded_22 : decode cX4_rounded 22 = .ok (.lconst 1, 1) := by decide +kernel
theorem dX4_rounded_23 : decode cX4_rounded 23 = .ok (.iload_n 2, 1) := by decide +kernel
theorem dX4_rounded_24 : decode cX4_rounded 24 = .ok (.lshl, 1) := by decide +kernel
theorem dX4_rounded_25 : decode cX4_rounded 25 = .ok (.lconst 1, 1) := by decide +kernel
theorem dX4_rounded_26 : decode cX4_rounded 26 = .ok (.lsub, 1) := by decide +kernel
theorem dX4_rounded_27 : decode cX4_rounded 27 = .ok (.land, 1) := by decide +kernel
theorem dX4_rounded_28 : decode cX4_rounded 28 = .ok (.lstore 5, 2) := by decide +kernel
theorem dX4_rounded_30 : decode cX4_rounded 30 = .ok (.lconst 1, 1) := by decide +kernel
theorem dX4_rounded_31 : decode cX4_rounded 31 = .ok (.iload_n 2, 1) := by decide +kernel
theorem dX4_rounded_32 : decode cX4_rounded 32 = .ok (.iconst 1, 1) := by decide +kernel
theorem dX4_rounded_33 : decode cX4_rounded 33 = .ok (.isub, 1) := by decide +kernel
theorem dX4_rounded_34 : decode cX4_rounded 34 = .ok (.lshl, 1) := by decide +kernel
theorem dX4_rounded_35 : decode cX4_rounded 35 = .ok (.lstore 7, 2) := by decide +kernel
theorem dX4_rounded_37 : decode cX4_rounded 37 = .ok (.lload 5, 2) := by decide +kernel
theorem dX4_rounded_39 : decode cX4_rounded 39 = .ok (.lload 7, 2) := by decide +kernel
theorem dX4_rounded_41 : decode cX4_rounded 41 = .ok (.lcmp, 1) := by decide +kernel
theorem dX4_rounded_42 : decode cX4_rounded 42 = .ok (.ifCond .gt 19, 3) := by decide +kernel
theorem dX4_rounded_45 : decode cX4_rounded 45 = .ok (.lload 5, 2) := by decide +kernel
theorem dX4_rounded_47 : decode cX4_rounded 47 = .ok (.lload 7, 2) := by decide +kernel
theorem dX4_rounded_49 : decode cX4_rounded 49 = .ok (.lcmp, 1) := by decide +kernel
theorem dX4_rounded_50 : decode cX4_rounded 50 = .ok (.ifCond .ne 15, 3) := by decide +kernel
theorem dX4_rounded_53 : decode cX4_rounded 53 = .ok (.lload_n 3, 1) := by decide +kernel
theorem dX4_rounded_54 : decode cX4_rounded 54 = .ok (.lconst 1, 1) := by decide +kernel
theorem dX4_rounded_55 : decode cX4_rounded 55 = .ok (.land, 1) := by decide +kernel
theorem dX4_rounded_56 : decode cX4_rounded 56 = .ok (.lconst 0, 1) := by decide +kernel
theorem dX4_rounded_57 : decode cX4_rounded 57 = .ok (.lcmp, 1) := by decide +kernel
theorem dX4_rounded_58 : decode cX4_rounded 58 = .ok (.ifCond .eq 7, 3) := by decide +kernel
theorem dX4_rounded_61 : decode cX4_rounded 61 = .ok (.iconst 1, 1) := by decide +kernel
theorem dX4_rounded_62 : decode cX4_rounded 62 = .ok (.goto 4, 3) := by decide +kernel
theorem dX4_rounded_65 : decode cX4_rounded 65 = .ok (.iconst 0, 1) := by decide +kernel
theorem dX4_rounded_66 : decode cX4_rounded 66 = .ok (.istore 9, 2) := by decide +kernel
theorem dX4_rounded_68 : decode cX4_rounded 68 = .ok (.iload 9, 2) := by decide +kernel
theorem dX4_rounded_70 : decode cX4_rounded 70 = .ok (.ifCond .eq 9, 3) := by decide +kernel
theorem dX4_rounded_73 : decode cX4_rounded 73 = .ok (.lload_n 3, 1) := by decide +kernel
theorem dX4_rounded_74 : decode cX4_rounded 74 = .ok (.lconst 1, 1) := by decide +kernel
theorem dX4_rounded_75 : decode cX4_rounded 75 = .ok (.ladd, 1) := by decide +kernel
theorem dX4_rounded_76 : decode cX4_rounded 76 = .ok (.goto 4, 3) := by decide +kernel
theorem dX4_rounded_79 : decode cX4_rounded 79 = .ok (.lload_n 3, 1) := by decide +kernel
theorem dX4_rounded_80 : decode cX4_rounded 80 = .ok (.lreturn, 1) := by decide +kernel
set_option maxRecDepth 20000 in
theorem ggX4_shiftedOut_X4_withMore : GoodIn wsX4_shiftedOut wsX4_withMore := goodIn_r _ [4] (by decide +kernel) (by decide +kernel)
set_option maxRecDepth 20000 in
theorem gX4_shiftedOut_X4_withMore : GoodIn wsX4_shiftedOut (va_wsS RX4 44 yX4_withMore wsX4_withMore) := goodIn_app (goodIn_of _ (by decide +kernel)) ggX4_shiftedOut_X4_withMore
theorem dX4_shiftedOut_0 : decode cX4_shiftedOut 0 = .ok (.iload_n 2, 1) := by decide +kernel
theorem dX4_shiftedOut_1 : decode cX4_shiftedOut 1 = .ok (.bipush 63, 2) := by decide +kernel
theorem dX4_shiftedOut_3 : decode cX4_shiftedOut 3 = .ok (.if_icmp .le 9, 3) := by decide +kernel
theorem dX4_shiftedOut_6 : decode cX4_shiftedOut 6 = .ok (.lconst 0, 1) := by decide +kernel
theorem dX4_shiftedOut_7 : decode cX4_shiftedOut 7 = .ok (.lload_n 0, 1) := by decide +kernel
theorem dX4_shiftedOut_8 : decode cX4_shiftedOut 8 = .ok (.invokestatic 44, 3) := by decide +kernel
theorem dX4_shiftedOut_11 : decode cX4_shiftedOut 11 = .ok (.lreturn, 1) := by decide +kernel
theorem dX4_shiftedOut_12 : decode cX4_shiftedOut 12 = .ok (.lload_n 0, 1) := by decide +kernel
theorem dX4_shiftedOut_13 : decode cX4_shiftedOut 13 = .ok (.iload_n 2, 1) := by decide +kernel
theorem dX4_shiftedOut_14 : decode cX4_shiftedOut 14 = .ok (.lushr, 1) := by decide +kernel
theorem dX4_shiftedOut_15 : decode cX4_shiftedOut 15 = .ok (.lload_n 0, 1) := by decide +kernel
theorem dX4_shiftedOut_16 : decode cX4_shiftedOut 16 = .ok (.lconst 1, 1) := by decide +kernel
theorem dX4_shiftedOut_17 : decode cX4_shiftedOut 17 = .ok (.iload_n 2, 1) := by decide +kernel
theorem dX4_shiftedOut_18 : decode cX4_shiftedOut 18 = .ok (.lshl, 1) := by decide +kernel
theorem dX4_shiftedOut_19 : decode cX4_shiftedOut 19 = .ok (.lconst 1, 1) := by decide +kernel
theorem dX4_shiftedOut_20 : decode cX4_shiftedOut 20 = .ok (.lsub, 1) := by decide +kernel
theorem dX4_shiftedOut_21 : decode cX4_shiftedOut 21 = .ok (.land, 1) := by decide +kernel
theorem dX4_shiftedOut_22 : decode cX4_shiftedOut 22 = .ok (.invokestatic 44, 3) := by decide +kernel
theorem dX4_shiftedOut_25 : decode cX4_shiftedOut 25 = .ok (.lreturn, 1) := by decide +kernel
theorem dX4_withMore_0 : decode cX4_withMore 0 = .ok (.lload_n 2, 1) := by decide +kernel
theorem dX4_withMore_1 : decode cX4_withMore 1 = .ok (.lconst 0, 1) := by decide +kernel
theorem dX4_withMore_2 : decode cX4_withMore 2 = .ok (.lcmp, 1) := by decide +kernel
theorem dX4_withMore_3 : decode cX4_withMore 3 = .ok (.ifCond .ne 7, 3) := by decide +kernel
theorem dX4_withMore_6 : decode cX4_withMore 6 = .ok (.lload_n 0, 1) := by decide +kernel
theorem dX4_withMore_7 : decode cX4_withMore 7 = .ok (.goto 6, 3) := by decide +kernel
theorem dX4_withMore_10 : decode cX4_withMore 10 = .ok (.lload_n 0, 1) := by decide +kernel
theorem dX4_withMore_11 : decode cX4_withMore 11 = .ok (.lconst 1, 1) := by decide +kernel
theorem dX4_withMore_12 : decode cX4_withMore 12 = .ok (.lor, 1) := by decide +kernel
theorem dX4_withMore_13 : decode cX4_withMore 13 = .ok (.lreturn, 1) := by decide +kernel
set_option maxRecDepth 20000 in
theorem ggX4_mantissa_X4_width : GoodIn wsX4_mantissa wsX4_width := goodIn_r _ [4] (by decide +kernel) (by decide +kernel)
set_option maxRecDepth 20000 in
theorem gX4_mantissa_X4_width : GoodIn wsX4_mantissa (va_wsS RX4 74 yX4_width wsX4_width) := goodIn_app (goodIn_of _ (by decide +kernel)) ggX4_mantissa_X4_width
set_option maxRecDepth 20000 in
theorem ggX4_mantissa_X4_sizeOf : GoodIn wsX4_mantissa wsX4_sizeOf := goodIn_r _ [7, 8, 9] (by decide +kernel) (by decide +kernel)
set_option maxRecDepth 20000 in
theorem gX4_mantissa_X4_sizeOf : GoodIn wsX4_mantissa (va_wsS RX4 7 yX4_sizeOf wsX4_sizeOf) := goodIn_app (goodIn_of _ (by decide +kernel)) ggX4_mantissa_X4_sizeOf
theorem dX4_mantissa_0 : decode cX4_mantissa 0 = .ok (.lconst 1, 1) := by decide +kernel
theorem dX4_mantissa_1 : decode cX4_mantissa 1 = .ok (.iload_n 0, 1) := by decide +kernel
theorem dX4_mantissa_2 : decode cX4_mantissa 2 = .ok (.invokestatic 74, 3) := by decide +kernel
theorem dX4_mantissa_5 : decode cX4_mantissa 5 = .ok (.lshl, 1) := by decide +kernel
theorem dX4_mantissa_6 : decode cX4_mantissa 6 = .ok (.lstore_n 3, 1) := by decide +kernel
theorem dX4_mantissa_7 : decode cX4_mantissa 7 = .ok (.lload_n 1, 1) := by decide +kernel
theorem dX4_mantissa_8 : decode cX4_mantissa 8 = .ok (.lload_n 3, 1) := by decide +kernel
theorem dX4_mantissa_9 : decode cX4_mantissa 9 = .ok (.lconst 1, 1) := by decide +kernel
theorem dX4_mantissa_10 : decode cX4_mantissa 10 = .ok (.lsub, 1) := by decide +kernel
theorem dX4_mantissa_11 : decode cX4_mantissa 11 = .ok (.land, 1) := by decide +kernel
theorem dX4_mantissa_12 : decode cX4_mantissa 12 = .ok (.lstore 5, 2) := by decide +kernel
theorem dX4_mantissa_14 : decode cX4_mantissa 14 = .ok (.iload_n 0, 1) := by decide +kernel
theorem dX4_mantissa_15 : decode cX4_mantissa 15 = .ok (.lload_n 1, 1) := by decide +kernel
theorem dX4_mantissa_16 : decode cX4_mantissa 16 = .ok (.invokestatic 7, 3) := by decide +kernel
theorem dX4_mantissa_19 : decode cX4_mantissa 19 = .ok (.lload_n 3, 1) := by decide +kernel
theorem dX4_mantissa_20 : decode cX4_mantissa 20 = .ok (.lcmp, 1) := by decide +kernel
theorem dX4_mantissa_21 : decode cX4_mantissa 21 = .ok (.ifCond .ge 8, 3) := by decide +kernel
theorem dX4_mantissa_24 : decode cX4_mantissa 24 = .ok (.lload 5, 2) := by decide +kernel
theorem dX4_mantissa_26 : decode cX4_mantissa 26 = .ok (.goto 7, 3) := by decide +kernel
theorem dX4_mantissa_29 : decode cX4_mantissa 29 = .ok (.lload 5, 2) := by decide +kernel
theorem dX4_mantissa_31 : decode cX4_mantissa 31 = .ok (.lload_n 3, 1) := by decide +kernel
theorem dX4_mantissa_32 : decode cX4_mantissa 32 = .ok (.lor, 1) := by decide +kernel
theorem dX4_mantissa_33 : decode cX4_mantissa 33 = .ok (.lreturn, 1) := by decide +kernel
set_option maxRecDepth 20000 in
theorem ggX4_exponent_X4_sizeOf : GoodIn wsX4_exponent wsX4_sizeOf := goodIn_r _ [8, 9, 10] (by decide +kernel) (by decide +kernel)
set_option maxRecDepth 20000 in
theorem gX4_exponent_X4_sizeOf : GoodIn wsX4_exponent (va_wsS RX4 7 yX4_sizeOf wsX4_sizeOf) := goodIn_app (goodIn_of _ (by decide +kernel)) ggX4_exponent_X4_sizeOf
set_option maxRecDepth 20000 in
theorem ggX4_exponent_X4_width : GoodIn wsX4_exponent wsX4_width := goodIn_r _ [13] (by decide +kernel) (by decide +kernel)
set_option maxRecDepth 20000 in
theorem gX4_exponent_X4_width : GoodIn wsX4_exponent (va_wsS RX4 74 yX4_width wsX4_width) := goodIn_app (goodIn_of _ (by decide +kernel)) ggX4_exponent_X4_width
set_option maxRecDepth 20000 in
theorem ggX4_exponent_X4_leastExponent : GoodIn wsX4_exponent wsX4_leastExponent := goodIn_r _ [16] (by decide +kernel) (by decide +kernel)
set_option maxRecDepth 20000 in
theorem gX4_exponent_X4_leastExponent : GoodIn wsX4_exponent (va_wsS RX4 70 yX4_leastExponent wsX4_leastExponent) := goodIn_app (goodIn_of _ (by decide +kernel)) ggX4_exponent_X4_leastExponent
theorem dX4_exponent_0 : decode cX4_exponent 0 = .ok (.iload_n 0, 1) := by decide +kernel
theorem dX4_exponent_1 : decode cX4_exponent 1 = .ok (.lload_n 1, 1) := by decide +kernel
theorem dX4_exponent_2 : decode cX4_exponent 2 = .ok (.invokestatic 7, 3) := by decide +kernel
theorem dX4_exponent_5 : decode cX4_exponent 5 = .ok (.iload_n 0, 1) := by decide +kernel
theorem dX4_exponent_6 : decode cX4_exponent 6 = .ok (.invokestatic 74, 3) := by decide +kernel
theorem dX4_exponent_9 : decode cX4_exponent 9 = .ok (.lushr, 1) := by decide +kernel
theorem dX4_exponent_10 : decode cX4_exponent 10 = .ok (.l2i, 1) := by decide +kernel
theorem dX4_exponent_11 : decode cX4_exponent 11 = .ok (.istore_n 3, 1) := by decide +kernel
theorem dX4_exponent_12 : decode cX4_exponent 12 = .ok (.iload_n 0, 1) := by decide +kernel
theorem dX4_exponent_13 : decode cX4_exponent 13 = .ok (.invokestatic 70, 3) := by decide +kernel
theorem dX4_exponent_16 : decode cX4_exponent 16 = .ok (.iconst 0, 1) := by decide +kernel
theorem dX4_exponent_17 : decode cX4_exponent 17 = .ok (.iload_n 3, 1) := by decide +kernel
theorem dX4_exponent_18 : decode cX4_exponent 18 = .ok (.iconst 1, 1) := by decide +kernel
theorem dX4_exponent_19 : decode cX4_exponent 19 = .ok (.isub, 1) := by decide +kernel
theorem dX4_exponent_20 : decode cX4_exponent 20 = .ok (.invokestatic 57, 3) := by decide +kernel
theorem dX4_exponent_23 : decode cX4_exponent 23 = .ok (.iadd, 1) := by decide +kernel
theorem dX4_exponent_24 : decode cX4_exponent 24 = .ok (.ireturn, 1) := by decide +kernel
theorem dX4_sizeOf_0 : decode cX4_sizeOf 0 = .ok (.lload_n 1, 1) := by decide +kernel
theorem dX4_sizeOf_1 : decode cX4_sizeOf 1 = .ok (.iload_n 0, 1) := by decide +kernel
theorem dX4_sizeOf_2 : decode cX4_sizeOf 2 = .ok (.ifCond .eq 9, 3) := by decide +kernel
theorem dX4_sizeOf_5 : decode cX4_sizeOf 5 = .ok (.ldc2_w 68, 3) := by decide +kernel
theorem dX4_sizeOf_8 : decode cX4_sizeOf 8 = .ok (.goto 6, 3) := by decide +kernel
theorem dX4_sizeOf_11 : decode cX4_sizeOf 11 = .ok (.ldc2_w 82, 3) := by decide +kernel
theorem dX4_sizeOf_14 : decode cX4_sizeOf 14 = .ok (.land, 1) := by decide +kernel
theorem dX4_sizeOf_15 : decode cX4_sizeOf 15 = .ok (.lreturn, 1) := by decide +kernel
theorem dX4_signed_0 : decode cX4_signed 0 = .ok (.iload_n 0, 1) := by decide +kernel
theorem dX4_signed_1 : decode cX4_signed 1 = .ok (.ifCond .eq 9, 3) := by decide +kernel
theorem dX4_signed_4 : decode cX4_signed 4 = .ok (.ldc2_w 19, 3) := by decide +kernel
theorem dX4_signed_7 : decode cX4_signed 7 = .ok (.goto 6, 3) := by decide +kernel
theorem dX4_signed_10 : decode cX4_signed 10 = .ok (.ldc2_w 84, 3) := by decide +kernel
theorem dX4_signed_13 : decode cX4_signed 13 = .ok (.lstore 4, 2) := by decide +kernel
theorem dX4_signed_15 : decode cX4_signed 15 = .ok (.iload_n 1, 1) := by decide +kernel
theorem dX4_signed_16 : decode cX4_signed 16 = .ok (.ifCond .eq 10, 3) := by decide +kernel
theorem dX4_signed_19 : decode cX4_signed 19 = .ok (.lload_n 2, 1) := by decide +kernel
theorem dX4_signed_20 : decode cX4_signed 20 = .ok (.lload 4, 2) := by decide +kernel
theorem dX4_signed_22 : decode cX4_signed 22 = .ok (.lor, 1) := by decide +kernel
theorem dX4_signed_23 : decode cX4_signed 23 = .ok (.goto 4, 3) := by decide +kernel
theorem dX4_signed_26 : decode cX4_signed 26 = .ok (.lload_n 2, 1) := by decide +kernel
theorem dX4_signed_27 : decode cX4_signed 27 = .ok (.lreturn, 1) := by decide +kernel
theorem dX4_endless_0 : decode cX4_endless 0 = .ok (.iload_n 0, 1) := by decide +kernel
theorem dX4_endless_1 : decode cX4_endless 1 = .ok (.ifCond .eq 9, 3) := by decide +kernel
theorem dX4_endless_4 : decode cX4_endless 4 = .ok (.ldc2_w 86, 3) := by decide +kernel
theorem dX4_endless_7 : decode cX4_endless 7 = .ok (.goto 6, 3) := by decide +kernel
theorem dX4_endless_10 : decode cX4_endless 10 = .ok (.ldc2_w 88, 3) := by decide +kernel
theorem dX4_endless_13 : decode cX4_endless 13 = .ok (.lreturn, 1) := by decide +kernel
theorem dX4_width_0 : decode cX4_width 0 = .ok (.iload_n 0, 1) := by decide +kernel
theorem dX4_width_1 : decode cX4_width 1 = .ok (.ifCond .eq 8, 3) := by decide +kernel
theorem dX4_width_4 : decode cX4_width 4 = .ok (.bipush 52, 2) := by decide +kernel
theorem dX4_width_6 : decode cX4_width 6 = .ok (.goto 5, 3) := by decide +kernel
theorem dX4_width_9 : decode cX4_width 9 = .ok (.bipush 23, 2) := by decide +kernel
theorem dX4_width_11 : decode cX4_width 11 = .ok (.ireturn, 1) := by decide +kernel
theorem dX4_leastExponent_0 : decode cX4_leastExponent 0 = .ok (.iload_n 0, 1) := by decide +kernel
theorem dX4_leastExponent_1 : decode cX4_leastExponent 1 = .ok (.ifCond .eq 9, 3) := by decide +kernel
theorem dX4_leastExponent_4 : decode cX4_leastExponent 4 = .ok (.sipush (-1074), 3) := by decide +kernel
theorem dX4_leastExponent_7 : decode cX4_leastExponent 7 = .ok (.goto 6, 3) := by decide +kernel
theorem dX4_leastExponent_10 : decode cX4_leastExponent 10 = .ok (.sipush (-149), 3) := by decide +kernel
theorem dX4_leastExponent_13 : decode cX4_leastExponent 13 = .ok (.ireturn, 1) := by decide +kernel
set_option maxRecDepth 20000 in
theorem ggX4_lengthOf_J13_numberOfLeadingZeros_95d88 : GoodIn wsX4_lengthOf wsJ13_numberOfLeadingZeros_95d88 := goodIn_r _ [4, 5, 6, 7, 8, 9] (by decide +kernel) (by decide +kernel)
set_option maxRecDepth 20000 in
theorem gX4_lengthOf_J13_numberOfLeadingZeros_95d88 : GoodIn wsX4_lengthOf (va_wsS RX4 54 yJ13_numberOfLeadingZeros_95d88 wsJ13_numberOfLeadingZeros_95d88) := goodIn_app (goodIn_of _ (by decide +kernel)) ggX4_lengthOf_J13_numberOfLeadingZeros_95d88
theorem dX4_lengthOf_0 : decode cX4_lengthOf 0 = .ok (.bipush 64, 2) := by decide +kernel
theorem dX4_lengthOf_2 : decode cX4_lengthOf 2 = .ok (.lload_n 0, 1) := by decide +kernel
theorem dX4_lengthOf_3 : decode cX4_lengthOf 3 = .ok (.invokestatic 54, 3) := by decide +kernel
theorem dX4_lengthOf_6 : decode cX4_lengthOf 6 = .ok (.isub, 1) := by decide +kernel
theorem dX4_lengthOf_7 : decode cX4_lengthOf 7 = .ok (.ireturn, 1) := by decide +kernel
theorem dX5_init_0 : decode cX5_init 0 = .ok (.aload_n 0, 1) := by decide +kernel
theorem dX5_init_1 : decode cX5_init 1 = .ok (.invokespecial 3, 3) := by decide +kernel
theorem dX5_init_4 : decode cX5_init 4 = .ok (.aload_n 0, 1) := by decide +kernel
theorem dX5_init_5 : decode cX5_init 5 = .ok (.bipush 16, 2) := by decide +kernel
theorem dX5_init_7 : decode cX5_init 7 = .ok (.newarray .long, 2) := by decide +kernel
theorem dX5_init_9 : decode cX5_init 9 = .ok (.putfield 9, 3) := by decide +kernel
theorem dX5_init_12 : decode cX5_init 12 = .ok (.aload_n 0, 1) := by decide +kernel
theorem dX5_init_13 : decode cX5_init 13 = .ok (.iconst (-1), 1) := by decide +kernel
theorem dX5_init_14 : decode cX5_init 14 = .ok (.putfield 15, 3) := by decide +kernel
theorem dX5_init_17 : decode cX5_init 17 = .ok (.return_, 1) := by decide +kernel
theorem dX5_renew_0 : decode cX5_renew 0 = .ok (.iconst 0, 1) := by decide +kernel
theorem dX5_renew_1 : decode cX5_renew 1 = .ok (.istore_n 2, 1) := by decide +kernel
theorem dX5_renew_2 : decode cX5_renew 2 = .ok (.iload_n 2, 1) := by decide +kernel
theorem dX5_renew_3 : decode cX5_renew 3 = .ok (.aload_n 0, 1) := by decide +kernel
theorem dX5_renew_4 : decode cX5_renew 4 = .ok (.getfield 9, 3) := by decide +kernel
theorem dX5_renew_7 : decode cX5_renew 7 = .ok (.arraylength, 1) := by decide +kernel
theorem dX5_renew_8 : decode cX5_renew 8 = .ok (.if_icmp .ge 16, 3) := by decide +kernel
theorem dX5_renew_11 : decode cX5_renew 11 = .ok (.aload_n 0, 1) := by decide +kernel
theorem dX5_renew_12 : decode cX5_renew 12 = .ok (.getfield 9, 3) := by decide +kernel
theorem dX5_renew_15 : decode cX5_renew 15 = .ok (.iload_n 2, 1) := by decide +kernel
theorem dX5_renew_16 : decode cX5_renew 16 = .ok (.lconst 0, 1) := by decide +kernel
theorem dX5_renew_17 : decode cX5_renew 17 = .ok (.lastore, 1) := by decide +kernel
theorem dX5_renew_18 : decode cX5_renew 18 = .ok (.iinc 2 1, 3) := by decide +kernel
theorem dX5_renew_21 : decode cX5_renew 21 = .ok (.goto (-19), 3) := by decide +kernel
theorem dX5_renew_24 : decode cX5_renew 24 = .ok (.aload_n 0, 1) := by decide +kernel
theorem dX5_renew_25 : decode cX5_renew 25 = .ok (.iload_n 1, 1) := by decide +kernel
theorem dX5_renew_26 : decode cX5_renew 26 = .ok (.putfield 15, 3) := by decide +kernel
theorem dX5_renew_29 : decode cX5_renew 29 = .ok (.return_, 1) := by decide +kernel
theorem dX5_isMissing_0 : decode cX5_isMissing 0 = .ok (.aload_n 0, 1) := by decide +kernel
theorem dX5_isMissing_1 : decode cX5_isMissing 1 = .ok (.getfield 15, 3) := by decide +kernel
theorem dX5_isMissing_4 : decode cX5_isMissing 4 = .ok (.iconst (-1), 1) := by decide +kernel
theorem dX5_isMissing_5 : decode cX5_isMissing 5 = .ok (.if_icmp .ne 7, 3) := by decide +kernel
theorem dX5_isMissing_8 : decode cX5_isMissing 8 = .ok (.iconst 1, 1) := by decide +kernel
theorem dX5_isMissing_9 : decode cX5_isMissing 9 = .ok (.goto 4, 3) := by decide +kernel
theorem dX5_isMissing_12 : decode cX5_isMissing 12 = .ok (.iconst 0, 1) := by decide +kernel
theorem dX5_isMissing_13 : decode cX5_isMissing 13 = .ok (.ireturn, 1) := by decide +kernel
set_option maxRecDepth 20000 in
theorem ggX5_failureAt_X5_isMissing : GoodIn wsX5_failureAt wsX5_isMissing := goodIn_r _ [6, 1, 7, 8] (by decide +kernel) (by decide +kernel)
set_option maxRecDepth 20000 in
theorem gX5_failureAt_X5_isMissing : GoodIn wsX5_failureAt (wsV RX5 19 RX5 yX5_isMissing wsX5_isMissing) := goodIn_app (goodIn_of _ (by decide +kernel)) ggX5_failureAt_X5_isMissing
theorem dX5_failureAt_0 : decode cX5_failureAt 0 = .ok (.aload_n 0, 1) := by decide +kernel
theorem dX5_failureAt_1 : decode cX5_failureAt 1 = .ok (.invokevirtual 19, 3) := by decide +kernel
theorem dX5_failureAt_4 : decode cX5_failureAt 4 = .ok (.ifCond .eq 6, 3) := by decide +kernel
theorem dX5_failureAt_7 : decode cX5_failureAt 7 = .ok (.bipush (-11), 2) := by decide +kernel
theorem dX5_failureAt_9 : decode cX5_failureAt 9 = .ok (.ireturn, 1) := by decide +kernel
theorem dX5_failureAt_10 : decode cX5_failureAt 10 = .ok (.iload_n 1, 1) := by decide +kernel
theorem dX5_failureAt_11 : decode cX5_failureAt 11 = .ok (.ifCond .lt 15, 3) := by decide +kernel
theorem dX5_failureAt_14 : decode cX5_failureAt 14 = .ok (.iload_n 1, 1) := by decide +kernel
theorem dX5_failureAt_15 : decode cX5_failureAt 15 = .ok (.aload_n 0, 1) := by decide +kernel
theorem dX5_failureAt_16 : decode cX5_failureAt 16 = .ok (.getfield 15, 3) := by decide +kernel
theorem dX5_failureAt_19 : decode cX5_failureAt 19 = .ok (.if_icmp .ge 7, 3) := by decide +kernel
theorem dX5_failureAt_22 : decode cX5_failureAt 22 = .ok (.iconst 0, 1) := by decide +kernel
theorem dX5_failureAt_23 : decode cX5_failureAt 23 = .ok (.goto 5, 3) := by decide +kernel
theorem dX5_failureAt_26 : decode cX5_failureAt 26 = .ok (.bipush (-12), 2) := by decide +kernel
theorem dX5_failureAt_28 : decode cX5_failureAt 28 = .ok (.ireturn, 1) := by decide +kernel
set_option maxRecDepth 20000 in
theorem ggX6_init_X2_init : GoodIn wsX6_init wsX2_init := goodIn_r _ [4, 5, 6, 7, 8, 9, 10, 11, 12, 13, 14, 15, 16, 17, 18, 19, 20, 21] (by decide +kernel) (by decide +kernel)
set_option maxRecDepth 20000 in
theorem gX6_init_X2_init : GoodIn wsX6_init (wsX2_init) := ggX6_init_X2_init
theorem dX6_init_0 : decode cX6_init 0 = .ok (.aload_n 0, 1) := by decide +kernel
theorem dX6_init_1 : decode cX6_init 1 = .ok (.iload_n 1, 1) := by decide +kernel
theorem dX6_init_2 : decode cX6_init 2 = .ok (.lload_n 2, 1) := by decide +kernel
theorem dX6_init_3 : decode cX6_init 3 = .ok (.invokespecial 1, 3) := by decide +kernel
theorem dX6_init_6 : decode cX6_init 6 = .ok (.return_, 1) := by decide +kernel
set_option maxRecDepth 20000 in
theorem ggX6_forceAt_X4_negated : GoodIn wsX6_forceAt wsX4_negated := goodIn_r _ [6, 7] (by decide +kernel) (by decide +kernel)
set_option maxRecDepth 20000 in
theorem gX6_forceAt_X4_negated : GoodIn wsX6_forceAt (va_wsS RX6 13 yX4_negated wsX4_negated) := goodIn_app (goodIn_of _ (by decide +kernel)) ggX6_forceAt_X4_negated
set_option maxRecDepth 20000 in
theorem ggX6_forceAt_X4_sum : GoodIn wsX6_forceAt wsX4_sum := goodIn_r _ [10, 11, 12, 5, 13, 14, 15, 16, 17, 18, 19, 20, 21, 22, 23, 24, 25, 26, 27, 28, 29, 30, 31, 32, 33, 34, 35, 36, 37, 38, 39, 40, 41, 42, 43, 7, 44, 45, 46, 47, 48, 49, 50, 51, 52, 53, 54, 55, 56, 57, 58, 59, 60, 61, 62, 63, 64] (by decide +kernel) (by decide +kernel)
set_option maxRecDepth 20000 in
theorem gX6_forceAt_X4_sum : GoodIn wsX6_forceAt (va_wsS RX6 19 yX4_sum wsX4_sum) := goodIn_app (goodIn_of _ (by decide +kernel)) ggX6_forceAt_X4_sum
theorem dX6_forceAt_0 : decode cX6_forceAt 0 = .ok (.iconst 1, 1) := by decide +kernel
theorem dX6_forceAt_1 : decode cX6_forceAt 1 = .ok (.aload_n 0, 1) := by decide +kernel
theorem dX6_forceAt_2 : decode cX6_forceAt 2 = .ok (.getfield 7, 3) := by decide +kernel
theorem dX6_forceAt_5 : decode cX6_forceAt 5 = .ok (.lload_n 1, 1) := by decide +kernel
theorem dX6_forceAt_6 : decode cX6_forceAt 6 = .ok (.invokestatic 13, 3) := by decide +kernel
theorem dX6_forceAt_9 : decode cX6_forceAt 9 = .ok (.invokestatic 19, 3) := by decide +kernel
theorem dX6_forceAt_12 : decode cX6_forceAt 12 = .ok (.lreturn, 1) := by decide +kernel
theorem dJxe99ae_isNaN_b9ae7_0 : decode cJxe99ae_isNaN_b9ae7 0 = .ok (.dload_n 0, 1) := by decide +kernel
theorem dJxe99ae_isNaN_b9ae7_1 : decode cJxe99ae_isNaN_b9ae7 1 = .ok (.dload_n 0, 1) := by decide +kernel
theorem dJxe99ae_isNaN_b9ae7_2 : decode cJxe99ae_isNaN_b9ae7 2 = .ok (.dcmp .l, 1) := by decide +kernel
theorem dJxe99ae_isNaN_b9ae7_3 : decode cJxe99ae_isNaN_b9ae7 3 = .ok (.ifCond .eq 7, 3) := by decide +kernel
theorem dJxe99ae_isNaN_b9ae7_6 : decode cJxe99ae_isNaN_b9ae7 6 = .ok (.iconst 1, 1) := by decide +kernel
theorem dJxe99ae_isNaN_b9ae7_7 : decode cJxe99ae_isNaN_b9ae7 7 = .ok (.goto 4, 3) := by decide +kernel
theorem dJxe99ae_isNaN_b9ae7_10 : decode cJxe99ae_isNaN_b9ae7 10 = .ok (.iconst 0, 1) := by decide +kernel
theorem dJxe99ae_isNaN_b9ae7_11 : decode cJxe99ae_isNaN_b9ae7 11 = .ok (.ireturn, 1) := by decide +kernel
set_option maxRecDepth 20000 in
theorem ggJxe99ae_doubleToLongBits_ccdee_Jxe99ae_isNaN_b9ae7 : GoodIn wsJxe99ae_doubleToLongBits_ccdee wsJxe99ae_isNaN_b9ae7 := goodIn_r _ [9] (by decide +kernel) (by decide +kernel)
set_option maxRecDepth 20000 in
theorem gJxe99ae_doubleToLongBits_ccdee_Jxe99ae_isNaN_b9ae7 : GoodIn wsJxe99ae_doubleToLongBits_ccdee (va_wsS RJxe99ae 122 yJxe99ae_isNaN_b9ae7 wsJxe99ae_isNaN_b9ae7) := goodIn_app (goodIn_of _ (by decide +kernel)) ggJxe99ae_doubleToLongBits_ccdee_Jxe99ae_isNaN_b9ae7
theorem dJxe99ae_doubleToLongBits_ccdee_0 : decode cJxe99ae_doubleToLongBits_ccdee 0 = .ok (.dload_n 0, 1) := by decide +kernel
theorem dJxe99ae_doubleToLongBits_ccdee_1 : decode cJxe99ae_doubleToLongBits_ccdee 1 = .ok (.invokestatic 122, 3) := by decide +kernel
theorem dJxe99ae_doubleToLongBits_ccdee_4 : decode cJxe99ae_doubleToLongBits_ccdee 4 = .ok (.ifCond .ne 8, 3) := by decide +kernel
theorem dJxe99ae_doubleToLongBits_ccdee_7 : decode cJxe99ae_doubleToLongBits_ccdee 7 = .ok (.dload_n 0, 1) := by decide +kernel
theorem dJxe99ae_doubleToLongBits_ccdee_8 : decode cJxe99ae_doubleToLongBits_ccdee 8 = .ok (.invokestatic 134, 3) := by decide +kernel
theorem dJxe99ae_doubleToLongBits_ccdee_11 : decode cJxe99ae_doubleToLongBits_ccdee 11 = .ok (.lreturn, 1) := by decide +kernel
theorem dJxe99ae_doubleToLongBits_ccdee_12 : decode cJxe99ae_doubleToLongBits_ccdee 12 = .ok (.ldc2_w 137, 3) := by decide +kernel
theorem dJxe99ae_doubleToLongBits_ccdee_15 : decode cJxe99ae_doubleToLongBits_ccdee 15 = .ok (.lreturn, 1) := by decide +kernel
theorem dJxf58ca_isNaN_12338_0 : decode cJxf58ca_isNaN_12338 0 = .ok (.fload_n 0, 1) := by decide +kernel
theorem dJxf58ca_isNaN_12338_1 : decode cJxf58ca_isNaN_12338 1 = .ok (.fload_n 0, 1) := by decide +kernel
theorem dJxf58ca_isNaN_12338_2 : decode cJxf58ca_isNaN_12338 2 = .ok (.fcmp .l, 1) := by decide +kernel
theorem dJxf58ca_isNaN_12338_3 : decode cJxf58ca_isNaN_12338 3 = .ok (.ifCond .eq 7, 3) := by decide +kernel
theorem dJxf58ca_isNaN_12338_6 : decode cJxf58ca_isNaN_12338 6 = .ok (.iconst 1, 1) := by decide +kernel
theorem dJxf58ca_isNaN_12338_7 : decode cJxf58ca_isNaN_12338 7 = .ok (.goto 4, 3) := by decide +kernel
theorem dJxf58ca_isNaN_12338_10 : decode cJxf58ca_isNaN_12338 10 = .ok (.iconst 0, 1) := by decide +kernel
theorem dJxf58ca_isNaN_12338_11 : decode cJxf58ca_isNaN_12338 11 = .ok (.ireturn, 1) := by decide +kernel
set_option maxRecDepth 20000 in
theorem ggJxf58ca_floatToIntBits_5c35a_Jxf58ca_isNaN_12338 : GoodIn wsJxf58ca_floatToIntBits_5c35a wsJxf58ca_isNaN_12338 := goodIn_r _ [9] (by decide +kernel) (by decide +kernel)
set_option maxRecDepth 20000 in
theorem gJxf58ca_floatToIntBits_5c35a_Jxf58ca_isNaN_12338 : GoodIn wsJxf58ca_floatToIntBits_5c35a (va_wsS RJxf58ca 59 yJxf58ca_isNaN_12338 wsJxf58ca_isNaN_12338) := goodIn_app (goodIn_of _ (by decide +kernel)) ggJxf58ca_floatToIntBits_5c35a_Jxf58ca_isNaN_12338
theorem dJxf58ca_floatToIntBits_5c35a_0 : decode cJxf58ca_floatToIntBits_5c35a 0 = .ok (.fload_n 0, 1) := by decide +kernel
theorem dJxf58ca_floatToIntBits_5c35a_1 : decode cJxf58ca_floatToIntBits_5c35a 1 = .ok (.invokestatic 59, 3) := by decide +kernel
theorem dJxf58ca_floatToIntBits_5c35a_4 : decode cJxf58ca_floatToIntBits_5c35a 4 = .ok (.ifCond .ne 8, 3) := by decide +kernel
theorem dJxf58ca_floatToIntBits_5c35a_7 : decode cJxf58ca_floatToIntBits_5c35a 7 = .ok (.fload_n 0, 1) := by decide +kernel
theorem dJxf58ca_floatToIntBits_5c35a_8 : decode cJxf58ca_floatToIntBits_5c35a 8 = .ok (.invokestatic 74, 3) := by decide +kernel
theorem dJxf58ca_floatToIntBits_5c35a_11 : decode cJxf58ca_floatToIntBits_5c35a 11 = .ok (.ireturn, 1) := by decide +kernel
theorem dJxf58ca_floatToIntBits_5c35a_12 : decode cJxf58ca_floatToIntBits_5c35a 12 = .ok (.ldc 77, 2) := by decide +kernel
theorem dJxf58ca_floatToIntBits_5c35a_14 : decode cJxf58ca_floatToIntBits_5c35a 14 = .ok (.ireturn, 1) := by decide +kernel
theorem dJ6_numberOfLeadingZeros_0f7a4_0 : decode cJ6_numberOfLeadingZeros_0f7a4 0 = .ok (.iload_n 0, 1) := by decide +kernel
theorem dJ6_numberOfLeadingZeros_0f7a4_1 : decode cJ6_numberOfLeadingZeros_0f7a4 1 = .ok (.ifCond .gt 14, 3) := by decide +kernel
theorem dJ6_numberOfLeadingZeros_0f7a4_4 : decode cJ6_numberOfLeadingZeros_0f7a4 4 = .ok (.iload_n 0, 1) := by decide +kernel
theorem dJ6_numberOfLeadingZeros_0f7a4_5 : decode cJ6_numberOfLeadingZeros_0f7a4 5 = .ok (.ifCond .ne 8, 3) := by decide +kernel
theorem dJ6_numberOfLeadingZeros_0f7a4_8 : decode cJ6_numberOfLeadingZeros_0f7a4 8 = .ok (.bipush 32, 2) := by decide +kernel
theorem dJ6_numberOfLeadingZeros_0f7a4_10 : decode cJ6_numberOfLeadingZeros_0f7a4 10 = .ok (.goto 4, 3) := by decide +kernel
theorem dJ6_numberOfLeadingZeros_0f7a4_13 : decode cJ6_numberOfLeadingZeros_0f7a4 13 = .ok (.iconst 0, 1) := by decide +kernel
theorem dJ6_numberOfLeadingZeros_0f7a4_14 : decode cJ6_numberOfLeadingZeros_0f7a4 14 = .ok (.ireturn, 1) := by decide +kernel
theorem dJ6_numberOfLeadingZeros_0f7a4_15 : decode cJ6_numberOfLeadingZeros_0f7a4 15 = .ok (.bipush 31, 2) := by decide +kernel
theorem dJ6_numberOfLeadingZeros_0f7a4_17 : decode cJ6_numberOfLeadingZeros_0f7a4 17 = .ok (.istore_n 1, 1) := by decide +kernel
theorem dJ6_numberOfLeadingZeros_0f7a4_18 : decode cJ6_numberOfLeadingZeros_0f7a4 18 = .ok (.iload_n 0, 1) := by decide +kernel
theorem dJ6_numberOfLeadingZeros_0f7a4_19 : decode cJ6_numberOfLeadingZeros_0f7a4 19 = .ok (.ldc_w 264, 3) := by decide +kernel
theorem dJ6_numberOfLeadingZeros_0f7a4_22 : decode cJ6_numberOfLeadingZeros_0f7a4 22 = .ok (.if_icmp .lt 11, 3) := by decide +kernel
theorem dJ6_numberOfLeadingZeros_0f7a4_25 : decode cJ6_numberOfLeadingZeros_0f7a4 25 = .ok (.iinc 1 (-16), 3) := by decide +kernel
theorem dJ6_numberOfLeadingZeros_0f7a4_28 : decode cJ6_numberOfLeadingZeros_0f7a4 28 = .ok (.iload_n 0, 1) := by decide +kernel
theorem dJ6_numberOfLeadingZeros_0f7a4_29 : decode cJ6_numberOfLeadingZeros_0f7a4 29 = .ok (.bipush 16, 2) := by decide +kernel
theorem dJ6_numberOfLeadingZeros_0f7a4_31 : decode cJ6_numberOfLeadingZeros_0f7a4 31 = .ok (.iushr, 1) := by decide +kernel
theorem dJ6_numberOfLeadingZeros_0f7a4_32 : decode cJ6_numberOfLeadingZeros_0f7a4 32 = .ok (.istore_n 0, 1) := by decide +kernel
theorem dJ6_numberOfLeadingZeros_0f7a4_33 : decode cJ6_numberOfLeadingZeros_0f7a4 33 = .ok (.iload_n 0, 1) := by decide +kernel
theorem dJ6_numberOfLeadingZeros_0f7a4_34 : decode cJ6_numberOfLeadingZeros_0f7a4 34 = .ok (.sipush 256, 3) := by decide +kernel
theorem dJ6_numberOfLeadingZeros_0f7a4_37 : decode cJ6_numberOfLeadingZeros_0f7a4 37 = .ok (.if_icmp .lt 11, 3) := by decide +kernel
theorem dJ6_numberOfLeadingZeros_0f7a4_40 : decode cJ6_numberOfLeadingZeros_0f7a4 40 = .ok (.iinc 1 (-8), 3) := by decide +kernel
theorem dJ6_numberOfLeadingZeros_0f7a4_43 : decode cJ6_numberOfLeadingZeros_0f7a4 43 = .ok (.iload_n 0, 1) := by decide +kernel
theorem dJ6_numberOfLeadingZeros_0f7a4_44 : decode cJ6_numberOfLeadingZeros_0f7a4 44 = .ok (.bipush 8, 2) := by decide +kernel
theorem dJ6_numberOfLeadingZeros_0f7a4_46 : decode cJ6_numberOfLeadingZeros_0f7a4 46 = .ok (.iushr, 1) := by decide +kernel
theorem dJ6_numberOfLeadingZeros_0f7a4_47 : decode cJ6_numberOfLeadingZeros_0f7a4 47 = .ok (.istore_n 0, 1) := by decide +kernel
theorem dJ6_numberOfLeadingZeros_0f7a4_48 : decode cJ6_numberOfLeadingZeros_0f7a4 48 = .ok (.iload_n 0, 1) := by decide +kernel
theorem dJ6_numberOfLeadingZeros_0f7a4_49 : decode cJ6_numberOfLeadingZeros_0f7a4 49 = .ok (.bipush 16, 2) := by decide +kernel
theorem dJ6_numberOfLeadingZeros_0f7a4_51 : decode cJ6_numberOfLeadingZeros_0f7a4 51 = .ok (.if_icmp .lt 10, 3) := by decide +kernel
theorem dJ6_numberOfLeadingZeros_0f7a4_54 : decode cJ6_numberOfLeadingZeros_0f7a4 54 = .ok (.iinc 1 (-4), 3) := by decide +kernel
theorem dJ6_numberOfLeadingZeros_0f7a4_57 : decode cJ6_numberOfLeadingZeros_0f7a4 57 = .ok (.iload_n 0, 1) := by decide +kernel
theorem dJ6_numberOfLeadingZeros_0f7a4_58 : decode cJ6_numberOfLeadingZeros_0f7a4 58 = .ok (.iconst 4, 1) := by decide +kernel
theorem dJ6_numberOfLeadingZeros_0f7a4_59 : decode cJ6_numberOfLeadingZeros_0f7a4 59 = .ok (.iushr, 1) := by decide +kernel
theorem dJ6_numberOfLeadingZeros_0f7a4_60 : decode cJ6_numberOfLeadingZeros_0f7a4 60 = .ok (.istore_n 0, 1) := by decide +kernel
theorem dJ6_numberOfLeadingZeros_0f7a4_61 : decode cJ6_numberOfLeadingZeros_0f7a4 61 = .ok (.iload_n 0, 1) := by decide +kernel
theorem dJ6_numberOfLeadingZeros_0f7a4_62 : decode cJ6_numberOfLeadingZeros_0f7a4 62 = .ok (.iconst 4, 1) := by decide +kernel
theorem dJ6_numberOfLeadingZeros_0f7a4_63 : decode cJ6_numberOfLeadingZeros_0f7a4 63 = .ok (.if_icmp .lt 10, 3) := by decide +kernel
theorem dJ6_numberOfLeadingZeros_0f7a4_66 : decode cJ6_numberOfLeadingZeros_0f7a4 66 = .ok (.iinc 1 (-2), 3) := by decide +kernel
theorem dJ6_numberOfLeadingZeros_0f7a4_69 : decode cJ6_numberOfLeadingZeros_0f7a4 69 = .ok (.iload_n 0, 1) := by decide +kernel
theorem dJ6_numberOfLeadingZeros_0f7a4_70 : decode cJ6_numberOfLeadingZeros_0f7a4 70 = .ok (.iconst 2, 1) := by decide +kernel
theorem dJ6_numberOfLeadingZeros_0f7a4_71 : decode cJ6_numberOfLeadingZeros_0f7a4 71 = .ok (.iushr, 1) := by decide +kernel
theorem dJ6_numberOfLeadingZeros_0f7a4_72 : decode cJ6_numberOfLeadingZeros_0f7a4 72 = .ok (.istore_n 0, 1) := by decide +kernel
theorem dJ6_numberOfLeadingZeros_0f7a4_73 : decode cJ6_numberOfLeadingZeros_0f7a4 73 = .ok (.iload_n 1, 1) := by decide +kernel
theorem dJ6_numberOfLeadingZeros_0f7a4_74 : decode cJ6_numberOfLeadingZeros_0f7a4 74 = .ok (.iload_n 0, 1) := by decide +kernel
theorem dJ6_numberOfLeadingZeros_0f7a4_75 : decode cJ6_numberOfLeadingZeros_0f7a4 75 = .ok (.iconst 1, 1) := by decide +kernel
theorem dJ6_numberOfLeadingZeros_0f7a4_76 : decode cJ6_numberOfLeadingZeros_0f7a4 76 = .ok (.iushr, 1) := by decide +kernel
theorem dJ6_numberOfLeadingZeros_0f7a4_77 : decode cJ6_numberOfLeadingZeros_0f7a4 77 = .ok (.isub, 1) := by decide +kernel
theorem dJ6_numberOfLeadingZeros_0f7a4_78 : decode cJ6_numberOfLeadingZeros_0f7a4 78 = .ok (.ireturn, 1) := by decide +kernel
set_option maxRecDepth 20000 in
theorem ggJ13_numberOfLeadingZeros_95d88_J6_numberOfLeadingZeros_0f7a4 : GoodIn wsJ13_numberOfLeadingZeros_95d88 wsJ6_numberOfLeadingZeros_0f7a4 := goodIn_r _ [4, 5] (by decide +kernel) (by decide +kernel)
set_option maxRecDepth 20000 in
theorem gJ13_numberOfLeadingZeros_95d88_J6_numberOfLeadingZeros_0f7a4 : GoodIn wsJ13_numberOfLeadingZeros_95d88 (va_wsS RJ13 308 yJ6_numberOfLeadingZeros_0f7a4 wsJ6_numberOfLeadingZeros_0f7a4) := goodIn_app (goodIn_of _ (by decide +kernel)) ggJ13_numberOfLeadingZeros_95d88_J6_numberOfLeadingZeros_0f7a4
theorem dJ13_numberOfLeadingZeros_95d88_0 : decode cJ13_numberOfLeadingZeros_95d88 0 = .ok (.lload_n 0, 1) := by decide +kernel
theorem dJ13_numberOfLeadingZeros_95d88_1 : decode cJ13_numberOfLeadingZeros_95d88 1 = .ok (.bipush 32, 2) := by decide +kernel
theorem dJ13_numberOfLeadingZeros_95d88_3 : decode cJ13_numberOfLeadingZeros_95d88 3 = .ok (.lushr, 1) := by decide +kernel
theorem dJ13_numberOfLeadingZeros_95d88_4 : decode cJ13_numberOfLeadingZeros_95d88 4 = .ok (.l2i, 1) := by decide +kernel
theorem dJ13_numberOfLeadingZeros_95d88_5 : decode cJ13_numberOfLeadingZeros_95d88 5 = .ok (.istore_n 2, 1) := by decide +kernel
theorem dJ13_numberOfLeadingZeros_95d88_6 : decode cJ13_numberOfLeadingZeros_95d88 6 = .ok (.iload_n 2, 1) := by decide +kernel
theorem dJ13_numberOfLeadingZeros_95d88_7 : decode cJ13_numberOfLeadingZeros_95d88 7 = .ok (.ifCond .ne 14, 3) := by decide +kernel
theorem dJ13_numberOfLeadingZeros_95d88_10 : decode cJ13_numberOfLeadingZeros_95d88 10 = .ok (.bipush 32, 2) := by decide +kernel
theorem dJ13_numberOfLeadingZeros_95d88_12 : decode cJ13_numberOfLeadingZeros_95d88 12 = .ok (.lload_n 0, 1) := by decide +kernel
theorem dJ13_numberOfLeadingZeros_95d88_13 : decode cJ13_numberOfLeadingZeros_95d88 13 = .ok (.l2i, 1) := by decide +kernel
theorem dJ13_numberOfLeadingZeros_95d88_14 : decode cJ13_numberOfLeadingZeros_95d88 14 = .ok (.invokestatic 308, 3) := by decide +kernel
theorem dJ13_numberOfLeadingZeros_95d88_17 : decode cJ13_numberOfLeadingZeros_95d88 17 = .ok (.iadd, 1) := by decide +kernel
theorem dJ13_numberOfLeadingZeros_95d88_18 : decode cJ13_numberOfLeadingZeros_95d88 18 = .ok (.goto 7, 3) := by decide +kernel
theorem dJ13_numberOfLeadingZeros_95d88_21 : decode cJ13_numberOfLeadingZeros_95d88 21 = .ok (.iload_n 2, 1) := by decide +kernel
theorem dJ13_numberOfLeadingZeros_95d88_22 : decode cJ13_numberOfLeadingZeros_95d88 22 = .ok (.invokestatic 308, 3) := by decide +kernel
theorem dJ13_numberOfLeadingZeros_95d88_25 : decode cJ13_numberOfLeadingZeros_95d88 25 = .ok (.ireturn, 1) := by decide +kernel
theorem dJ9_abs_067f4_0 : decode cJ9_abs_067f4 0 = .ok (.lload_n 0, 1) := by decide +kernel
theorem dJ9_abs_067f4_1 : decode cJ9_abs_067f4 1 = .ok (.lconst 0, 1) := by decide +kernel
theorem dJ9_abs_067f4_2 : decode cJ9_abs_067f4 2 = .ok (.lcmp, 1) := by decide +kernel
theorem dJ9_abs_067f4_3 : decode cJ9_abs_067f4 3 = .ok (.ifCond .ge 8, 3) := by decide +kernel
theorem dJ9_abs_067f4_6 : decode cJ9_abs_067f4 6 = .ok (.lload_n 0, 1) := by decide +kernel
theorem dJ9_abs_067f4_7 : decode cJ9_abs_067f4 7 = .ok (.lneg, 1) := by decide +kernel
theorem dJ9_abs_067f4_8 : decode cJ9_abs_067f4 8 = .ok (.goto 4, 3) := by decide +kernel
theorem dJ9_abs_067f4_11 : decode cJ9_abs_067f4 11 = .ok (.lload_n 0, 1) := by decide +kernel
theorem dJ9_abs_067f4_12 : decode cJ9_abs_067f4 12 = .ok (.lreturn, 1) := by decide +kernel
theorem dJ9_max_7cf53_0 : decode cJ9_max_7cf53 0 = .ok (.iload_n 0, 1) := by decide +kernel
theorem dJ9_max_7cf53_1 : decode cJ9_max_7cf53 1 = .ok (.iload_n 1, 1) := by decide +kernel
theorem dJ9_max_7cf53_2 : decode cJ9_max_7cf53 2 = .ok (.if_icmp .lt 7, 3) := by decide +kernel
theorem dJ9_max_7cf53_5 : decode cJ9_max_7cf53 5 = .ok (.iload_n 0, 1) := by decide +kernel
theorem dJ9_max_7cf53_6 : decode cJ9_max_7cf53 6 = .ok (.goto 4, 3) := by decide +kernel
theorem dJ9_max_7cf53_9 : decode cJ9_max_7cf53 9 = .ok (.iload_n 1, 1) := by decide +kernel
theorem dJ9_max_7cf53_10 : decode cJ9_max_7cf53 10 = .ok (.ireturn, 1) := by decide +kernel
theorem dJ9_max_f86c9_0 : decode cJ9_max_f86c9 0 = .ok (.lload_n 0, 1) := by decide +kernel
theorem dJ9_max_f86c9_1 : decode cJ9_max_f86c9 1 = .ok (.lload_n 2, 1) := by decide +kernel
theorem dJ9_max_f86c9_2 : decode cJ9_max_f86c9 2 = .ok (.lcmp, 1) := by decide +kernel
theorem dJ9_max_f86c9_3 : decode cJ9_max_f86c9 3 = .ok (.ifCond .lt 7, 3) := by decide +kernel
theorem dJ9_max_f86c9_6 : decode cJ9_max_f86c9 6 = .ok (.lload_n 0, 1) := by decide +kernel
theorem dJ9_max_f86c9_7 : decode cJ9_max_f86c9 7 = .ok (.goto 4, 3) := by decide +kernel
theorem dJ9_max_f86c9_10 : decode cJ9_max_f86c9 10 = .ok (.lload_n 2, 1) := by decide +kernel
theorem dJ9_max_f86c9_11 : decode cJ9_max_f86c9 11 = .ok (.lreturn, 1) := by decide +kernel
theorem dJ9_min_7cf53_0 : decode cJ9_min_7cf53 0 = .ok (.iload_n 0, 1) := by decide +kernel
theorem dJ9_min_7cf53_1 : decode cJ9_min_7cf53 1 = .ok (.iload_n 1, 1) := by decide +kernel
theorem dJ9_min_7cf53_2 : decode cJ9_min_7cf53 2 = .ok (.if_icmp .gt 7, 3) := by decide +kernel
theorem dJ9_min_7cf53_5 : decode cJ9_min_7cf53 5 = .ok (.iload_n 0, 1) := by decide +kernel
theorem dJ9_min_7cf53_6 : decode cJ9_min_7cf53 6 = .ok (.goto 4, 3) := by decide +kernel
theorem dJ9_min_7cf53_9 : decode cJ9_min_7cf53 9 = .ok (.iload_n 1, 1) := by decide +kernel
theorem dJ9_min_7cf53_10 : decode cJ9_min_7cf53 10 = .ok (.ireturn, 1) := by decide +kernel
theorem dJ9_min_f86c9_0 : decode cJ9_min_f86c9 0 = .ok (.lload_n 0, 1) := by decide +kernel
theorem dJ9_min_f86c9_1 : decode cJ9_min_f86c9 1 = .ok (.lload_n 2, 1) := by decide +kernel
theorem dJ9_min_f86c9_2 : decode cJ9_min_f86c9 2 = .ok (.lcmp, 1) := by decide +kernel
theorem dJ9_min_f86c9_3 : decode cJ9_min_f86c9 3 = .ok (.ifCond .gt 7, 3) := by decide +kernel
theorem dJ9_min_f86c9_6 : decode cJ9_min_f86c9 6 = .ok (.lload_n 0, 1) := by decide +kernel
theorem dJ9_min_f86c9_7 : decode cJ9_min_f86c9 7 = .ok (.goto 4, 3) := by decide +kernel
theorem dJ9_min_f86c9_10 : decode cJ9_min_f86c9 10 = .ok (.lload_n 2, 1) := by decide +kernel
theorem dJ9_min_f86c9_11 : decode cJ9_min_f86c9 11 = .ok (.lreturn, 1) := by decide +kernel
