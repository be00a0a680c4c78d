set_option maxRecDepth 20000 in
theorem ggX7_init_X5_init : GoodIn wsX7_init wsX5_init := goodIn_r _ [21, 22, 2, 3, 23, 24, 25, 36, 37] (by decide +kernel) (by decide +kernel)
set_option maxRecDepth 20000 in
theorem gX7_init_X5_init_n51 : GoodIn wsX7_init (wsX5_init) := ggX7_init_X5_init
theorem dX7_init_0 : decode cX7_init 0 = .ok (.aload_n 0, 1) := by decide +kernel
theorem dX7_init_1 : decode cX7_init 1 = .ok (.invokespecial 1, 3) := by decide +kernel
theorem dX7_init_4 : decode cX7_init 4 = .ok (.aload_n 0, 1) := by decide +kernel
theorem dX7_init_5 : decode cX7_init 5 = .ok (.bipush 12, 2) := by decide +kernel
theorem dX7_init_7 : decode cX7_init 7 = .ok (.anewarray 9, 3) := by decide +kernel
theorem dX7_init_10 : decode cX7_init 10 = .ok (.putfield 11, 3) := by decide +kernel
theorem dX7_init_13 : decode cX7_init 13 = .ok (.aload_n 0, 1) := by decide +kernel
theorem dX7_init_14 : decode cX7_init 14 = .ok (.iconst 0, 1) := by decide +kernel
theorem dX7_init_15 : decode cX7_init 15 = .ok (.putfield 15, 3) := by decide +kernel
theorem dX7_init_18 : decode cX7_init 18 = .ok (.aload_n 0, 1) := by decide +kernel
theorem dX7_init_19 : decode cX7_init 19 = .ok (.bipush 20, 2) := by decide +kernel
theorem dX7_init_21 : decode cX7_init 21 = .ok (.anewarray 19, 3) := by decide +kernel
theorem dX7_init_24 : decode cX7_init 24 = .ok (.putfield 21, 3) := by decide +kernel
theorem dX7_init_27 : decode cX7_init 27 = .ok (.aload_n 0, 1) := by decide +kernel
theorem dX7_init_28 : decode cX7_init 28 = .ok (.iconst 0, 1) := by decide +kernel
theorem dX7_init_29 : decode cX7_init 29 = .ok (.putfield 25, 3) := by decide +kernel
theorem dX7_init_32 : decode cX7_init 32 = .ok (.aload_n 0, 1) := by decide +kernel
theorem dX7_init_33 : decode cX7_init 33 = .ok (.bipush 6, 2) := by decide +kernel
theorem dX7_init_35 : decode cX7_init 35 = .ok (.anewarray 19, 3) := by decide +kernel
theorem dX7_init_38 : decode cX7_init 38 = .ok (.putfield 28, 3) := by decide +kernel
theorem dX7_init_41 : decode cX7_init 41 = .ok (.aload_n 0, 1) := by decide +kernel
theorem dX7_init_42 : decode cX7_init 42 = .ok (.bipush 8, 2) := by decide +kernel
theorem dX7_init_44 : decode cX7_init 44 = .ok (.anewarray 19, 3) := by decide +kernel
theorem dX7_init_47 : decode cX7_init 47 = .ok (.putfield 31, 3) := by decide +kernel
theorem dX7_init_50 : decode cX7_init 50 = .ok (.aload_n 0, 1) := by decide +kernel
theorem dX7_init_51 : decode cX7_init 51 = .ok (.bipush 16, 2) := by decide +kernel
theorem dX7_init_53 : decode cX7_init 53 = .ok (.anewarray 34, 3) := by decide +kernel
theorem dX7_init_56 : decode cX7_init 56 = .ok (.putfield 36, 3) := by decide +kernel
theorem dX7_init_59 : decode cX7_init 59 = .ok (.aload_n 0, 1) := by decide +kernel
theorem dX7_init_60 : decode cX7_init 60 = .ok (.lconst 0, 1) := by decide +kernel
theorem dX7_init_61 : decode cX7_init 61 = .ok (.putfield 40, 3) := by decide +kernel
theorem dX7_init_64 : decode cX7_init 64 = .ok (.aload_n 0, 1) := by decide +kernel
theorem dX7_init_65 : decode cX7_init 65 = .ok (.iconst 0, 1) := by decide +kernel
theorem dX7_init_66 : decode cX7_init 66 = .ok (.putfield 44, 3) := by decide +kernel
theorem dX7_init_69 : decode cX7_init 69 = .ok (.aload_n 0, 1) := by decide +kernel
theorem dX7_init_70 : decode cX7_init 70 = .ok (.iconst 5, 1) := by decide +kernel
theorem dX7_init_71 : decode cX7_init 71 = .ok (.newarray .int, 2) := by decide +kernel
theorem dX7_init_73 : decode cX7_init 73 = .ok (.putfield 47, 3) := by decide +kernel
theorem dX7_init_76 : decode cX7_init 76 = .ok (.iconst 0, 1) := by decide +kernel
theorem dX7_init_77 : decode cX7_init 77 = .ok (.istore_n 1, 1) := by decide +kernel
theorem dX7_init_78 : decode cX7_init 78 = .ok (.iload_n 1, 1) := by decide +kernel
theorem dX7_init_79 : decode cX7_init 79 = .ok (.aload_n 0, 1) := by decide +kernel
theorem dX7_init_80 : decode cX7_init 80 = .ok (.getfield 36, 3) := by decide +kernel
theorem dX7_init_83 : decode cX7_init 83 = .ok (.arraylength, 1) := by decide +kernel
theorem dX7_init_84 : decode cX7_init 84 = .ok (.if_icmp .ge 22, 3) := by decide +kernel
theorem dX7_init_87 : decode cX7_init 87 = .ok (.aload_n 0, 1) := by decide +kernel
theorem dX7_init_88 : decode cX7_init 88 = .ok (.getfield 36, 3) := by decide +kernel
theorem dX7_init_91 : decode cX7_init 91 = .ok (.iload_n 1, 1) := by decide +kernel
theorem dX7_init_92 : decode cX7_init 92 = .ok (.new 34, 3) := by decide +kernel
theorem dX7_init_95 : decode cX7_init 95 = .ok (.dup, 1) := by decide +kernel
theorem dX7_init_96 : decode cX7_init 96 = .ok (.invokespecial 51, 3) := by decide +kernel
theorem dX7_init_99 : decode cX7_init 99 = .ok (.aastore, 1) := by decide +kernel
theorem dX7_init_100 : decode cX7_init 100 = .ok (.iinc 1 1, 3) := by decide +kernel
theorem dX7_init_103 : decode cX7_init 103 = .ok (.goto (-25), 3) := by decide +kernel
theorem dX7_init_106 : decode cX7_init 106 = .ok (.return_, 1) := by decide +kernel
set_option maxRecDepth 20000 in
theorem ggX7_dial_X4_told : GoodIn wsX7_dial wsX4_told := goodIn_r _ [9] (by decide +kernel) (by decide +kernel)
set_option maxRecDepth 20000 in
theorem gX7_dial_X4_told : GoodIn wsX7_dial (va_wsS RX7 52 yX4_told wsX4_told) := goodIn_app (goodIn_of _ (by decide +kernel)) ggX7_dial_X4_told
set_option maxRecDepth 20000 in
theorem ggX7_dial_X4_isFit : GoodIn wsX7_dial wsX4_isFit := goodIn_r _ [12, 13, 14, 8, 15, 16, 17, 18, 19, 20, 21, 22] (by decide +kernel) (by decide +kernel)
set_option maxRecDepth 20000 in
theorem gX7_dial_X4_isFit : GoodIn wsX7_dial (va_wsS RX7 58 yX4_isFit wsX4_isFit) := goodIn_app (goodIn_of _ (by decide +kernel)) ggX7_dial_X4_isFit
set_option maxRecDepth 20000 in
theorem ggX7_dial_X4_isZero : GoodIn wsX7_dial wsX4_isZero := goodIn_r _ [25, 13, 14, 8, 15, 16, 17] (by decide +kernel) (by decide +kernel)
set_option maxRecDepth 20000 in
theorem gX7_dial_X4_isZero : GoodIn wsX7_dial (va_wsS RX7 62 yX4_isZero wsX4_isZero) := goodIn_app (goodIn_of _ (by decide +kernel)) ggX7_dial_X4_isZero
set_option maxRecDepth 20000 in
theorem ggX7_dial_X1_init : GoodIn wsX7_dial wsX1_init := goodIn_r _ [28, 29, 30, 31, 32, 33, 34, 35, 46, 47, 48, 49] (by decide +kernel) (by decide +kernel)
set_option maxRecDepth 20000 in
theorem gX7_dial_X1_init : GoodIn wsX7_dial (wsX1_init) := ggX7_dial_X1_init
theorem dX7_dial_0 : decode cX7_dial 0 = .ok (.iload_n 1, 1) := by decide +kernel
theorem dX7_dial_1 : decode cX7_dial 1 = .ok (.lload_n 2, 1) := by decide +kernel
theorem dX7_dial_2 : decode cX7_dial 2 = .ok (.invokestatic 52, 3) := by decide +kernel
theorem dX7_dial_5 : decode cX7_dial 5 = .ok (.lstore 4, 2) := by decide +kernel
theorem dX7_dial_7 : decode cX7_dial 7 = .ok (.iload_n 1, 1) := by decide +kernel
theorem dX7_dial_8 : decode cX7_dial 8 = .ok (.lload 4, 2) := by decide +kernel
theorem dX7_dial_10 : decode cX7_dial 10 = .ok (.invokestatic 58, 3) := by decide +kernel
theorem dX7_dial_13 : decode cX7_dial 13 = .ok (.ifCond .eq 12, 3) := by decide +kernel
theorem dX7_dial_16 : decode cX7_dial 16 = .ok (.iload_n 1, 1) := by decide +kernel
theorem dX7_dial_17 : decode cX7_dial 17 = .ok (.lload 4, 2) := by decide +kernel
theorem dX7_dial_19 : decode cX7_dial 19 = .ok (.invokestatic 62, 3) := by decide +kernel
theorem dX7_dial_22 : decode cX7_dial 22 = .ok (.ifCond .eq 6, 3) := by decide +kernel
theorem dX7_dial_25 : decode cX7_dial 25 = .ok (.bipush (-102), 2) := by decide +kernel
theorem dX7_dial_27 : decode cX7_dial 27 = .ok (.ireturn, 1) := by decide +kernel
theorem dX7_dial_28 : decode cX7_dial 28 = .ok (.aload_n 0, 1) := by decide +kernel
theorem dX7_dial_29 : decode cX7_dial 29 = .ok (.getfield 15, 3) := by decide +kernel
theorem dX7_dial_32 : decode cX7_dial 32 = .ok (.bipush 12, 2) := by decide +kernel
theorem dX7_dial_34 : decode cX7_dial 34 = .ok (.if_icmp .lt 6, 3) := by decide +kernel
theorem dX7_dial_37 : decode cX7_dial 37 = .ok (.bipush (-103), 2) := by decide +kernel
theorem dX7_dial_39 : decode cX7_dial 39 = .ok (.ireturn, 1) := by decide +kernel
theorem dX7_dial_40 : decode cX7_dial 40 = .ok (.aload_n 0, 1) := by decide +kernel
theorem dX7_dial_41 : decode cX7_dial 41 = .ok (.getfield 11, 3) := by decide +kernel
theorem dX7_dial_44 : decode cX7_dial 44 = .ok (.aload_n 0, 1) := by decide +kernel
theorem dX7_dial_45 : decode cX7_dial 45 = .ok (.getfield 15, 3) := by decide +kernel
theorem dX7_dial_48 : decode cX7_dial 48 = .ok (.new 9, 3) := by decide +kernel
theorem dX7_dial_51 : decode cX7_dial 51 = .ok (.dup, 1) := by decide +kernel
theorem dX7_dial_52 : decode cX7_dial 52 = .ok (.iload_n 1, 1) := by decide +kernel
theorem dX7_dial_53 : decode cX7_dial 53 = .ok (.lload 4, 2) := by decide +kernel
theorem dX7_dial_55 : decode cX7_dial 55 = .ok (.invokespecial 65, 3) := by decide +kernel
theorem dX7_dial_58 : decode cX7_dial 58 = .ok (.aastore, 1) := by decide +kernel
theorem dX7_dial_59 : decode cX7_dial 59 = .ok (.aload_n 0, 1) := by decide +kernel
theorem dX7_dial_60 : decode cX7_dial 60 = .ok (.dup, 1) := by decide +kernel
theorem dX7_dial_61 : decode cX7_dial 61 = .ok (.getfield 15, 3) := by decide +kernel
theorem dX7_dial_64 : decode cX7_dial 64 = .ok (.dup_x1, 1) := by decide +kernel
theorem dX7_dial_65 : decode cX7_dial 65 = .ok (.iconst 1, 1) := by decide +kernel
theorem dX7_dial_66 : decode cX7_dial 66 = .ok (.iadd, 1) := by decide +kernel
theorem dX7_dial_67 : decode cX7_dial 67 = .ok (.putfield 15, 3) := by decide +kernel
theorem dX7_dial_70 : decode cX7_dial 70 = .ok (.ireturn, 1) := by decide +kernel
set_option maxRecDepth 20000 in
theorem ggX7_turn_X7_dialAt : GoodIn wsX7_turn wsX7_dialAt := goodIn_r _ [6, 7, 8, 110, 111, 112, 113, 114, 115, 116, 117, 118, 119] (by decide +kernel) (by decide +kernel)
set_option maxRecDepth 20000 in
theorem gX7_turn_X7_dialAt : GoodIn wsX7_turn (wsV RX7 68 RX7 yX7_dialAt wsX7_dialAt) := goodIn_app (goodIn_of _ (by decide +kernel)) ggX7_turn_X7_dialAt
set_option maxRecDepth 20000 in
theorem ggX7_turn_X4_told : GoodIn wsX7_turn wsX4_told := goodIn_r _ [12] (by decide +kernel) (by decide +kernel)
set_option maxRecDepth 20000 in
theorem gX7_turn_X4_told : GoodIn wsX7_turn (va_wsS RX7 52 yX4_told wsX4_told) := goodIn_app (goodIn_of _ (by decide +kernel)) ggX7_turn_X4_told
set_option maxRecDepth 20000 in
theorem ggX7_turn_X4_isFit : GoodIn wsX7_turn wsX4_isFit := goodIn_r _ [15, 16, 17, 11, 18, 19, 20, 21, 22, 23, 24, 25] (by decide +kernel) (by decide +kernel)
set_option maxRecDepth 20000 in
theorem gX7_turn_X4_isFit : GoodIn wsX7_turn (va_wsS RX7 58 yX4_isFit wsX4_isFit) := goodIn_app (goodIn_of _ (by decide +kernel)) ggX7_turn_X4_isFit
set_option maxRecDepth 20000 in
theorem ggX7_turn_X1_turnBy : GoodIn wsX7_turn wsX1_turnBy := goodIn_r _ [30, 31, 32, 33, 34, 35, 36, 11, 37, 16, 17, 18, 19, 20, 38, 39, 40, 41, 42, 43, 44, 45, 46, 47, 48, 49, 50, 51, 52, 53, 54, 55, 56, 57, 58, 59, 60, 61, 62, 63, 64, 65, 66, 67, 68, 69, 70, 71, 72, 73, 74, 75, 76, 77, 78, 79, 21, 22, 23, 24, 25, 80, 81, 82, 83, 14, 15, 84, 85, 86, 87, 88, 89, 90, 91, 92, 93, 94, 95, 106, 107, 108, 109] (by decide +kernel) (by decide +kernel)
set_option maxRecDepth 20000 in
theorem gX7_turn_X1_turnBy : GoodIn wsX7_turn (wsV RX7 76 RX1 yX1_turnBy wsX1_turnBy) := goodIn_app (goodIn_of _ (by decide +kernel)) ggX7_turn_X1_turnBy
set_option maxRecDepth 20000 in
theorem ggX7_turn_X7_done : GoodIn wsX7_turn wsX7_done := goodIn_r _ [99, 100, 110, 111, 112, 113, 114, 115, 116, 117, 118, 119] (by decide +kernel) (by decide +kernel)
set_option maxRecDepth 20000 in
theorem gX7_turn_X7_done : GoodIn wsX7_turn (wsV RX7 80 RX7 yX7_done wsX7_done) := goodIn_app (goodIn_of _ (by decide +kernel)) ggX7_turn_X7_done
set_option maxRecDepth 20000 in
theorem ggX7_turn_X7_failWith : GoodIn wsX7_turn wsX7_failWith := goodIn_r _ [104, 100, 105, 110, 111, 112, 113, 114, 115, 116, 117, 118, 119] (by decide +kernel) (by decide +kernel)
set_option maxRecDepth 20000 in
theorem gX7_turn_X7_failWith : GoodIn wsX7_turn (wsV RX7 84 RX7 yX7_failWith wsX7_failWith) := goodIn_app (goodIn_of _ (by decide +kernel)) ggX7_turn_X7_failWith
theorem dX7_turn_0 : decode cX7_turn 0 = .ok (.aload_n 0, 1) := by decide +kernel
theorem dX7_turn_1 : decode cX7_turn 1 = .ok (.iload_n 1, 1) := by decide +kernel
theorem dX7_turn_2 : decode cX7_turn 2 = .ok (.invokevirtual 68, 3) := by decide +kernel
theorem dX7_turn_5 : decode cX7_turn 5 = .ok (.astore 4, 2) := by decide +kernel
theorem dX7_turn_7 : decode cX7_turn 7 = .ok (.aload 4, 2) := by decide +kernel
theorem dX7_turn_9 : decode cX7_turn 9 = .ok (.ifnonnull 6, 3) := by decide +kernel
theorem dX7_turn_12 : decode cX7_turn 12 = .ok (.bipush (-101), 2) := by decide +kernel
theorem dX7_turn_14 : decode cX7_turn 14 = .ok (.ireturn, 1) := by decide +kernel
theorem dX7_turn_15 : decode cX7_turn 15 = .ok (.aload 4, 2) := by decide +kernel
theorem dX7_turn_17 : decode cX7_turn 17 = .ok (.getfield 72, 3) := by decide +kernel
theorem dX7_turn_20 : decode cX7_turn 20 = .ok (.lload_n 2, 1) := by decide +kernel
theorem dX7_turn_21 : decode cX7_turn 21 = .ok (.invokestatic 52, 3) := by decide +kernel
theorem dX7_turn_24 : decode cX7_turn 24 = .ok (.lstore 5, 2) := by decide +kernel
theorem dX7_turn_26 : decode cX7_turn 26 = .ok (.aload 4, 2) := by decide +kernel
theorem dX7_turn_28 : decode cX7_turn 28 = .ok (.getfield 72, 3) := by decide +kernel
theorem dX7_turn_31 : decode cX7_turn 31 = .ok (.lload 5, 2) := by decide +kernel
theorem dX7_turn_33 : decode cX7_turn 33 = .ok (.invokestatic 58, 3) := by decide +kernel
theorem dX7_turn_36 : decode cX7_turn 36 = .ok (.ifCond .ne 6, 3) := by decide +kernel
theorem dX7_turn_39 : decode cX7_turn 39 = .ok (.bipush (-102), 2) := by decide +kernel
theorem dX7_turn_41 : decode cX7_turn 41 = .ok (.ireturn, 1) := by decide +kernel
theorem dX7_turn_42 : decode cX7_turn 42 = .ok (.aload 4, 2) := by decide +kernel
theorem dX7_turn_44 : decode cX7_turn 44 = .ok (.lload 5, 2) := by decide +kernel
theorem dX7_turn_46 : decode cX7_turn 46 = .ok (.invokevirtual 76, 3) := by decide +kernel
theorem dX7_turn_49 : decode cX7_turn 49 = .ok (.ifCond .eq 11, 3) := by decide +kernel
theorem dX7_turn_52 : decode cX7_turn 52 = .ok (.aload_n 0, 1) := by decide +kernel
theorem dX7_turn_53 : decode cX7_turn 53 = .ok (.iconst 1, 1) := by decide +kernel
theorem dX7_turn_54 : decode cX7_turn 54 = .ok (.invokevirtual 80, 3) := by decide +kernel
theorem dX7_turn_57 : decode cX7_turn 57 = .ok (.goto 9, 3) := by decide +kernel
theorem dX7_turn_60 : decode cX7_turn 60 = .ok (.aload_n 0, 1) := by decide +kernel
theorem dX7_turn_61 : decode cX7_turn 61 = .ok (.bipush (-15), 2) := by decide +kernel
theorem dX7_turn_63 : decode cX7_turn 63 = .ok (.invokevirtual 84, 3) := by decide +kernel
theorem dX7_turn_66 : decode cX7_turn 66 = .ok (.ireturn, 1) := by decide +kernel
set_option maxRecDepth 20000 in
theorem ggX7_spin_X7_dialAt : GoodIn wsX7_spin wsX7_dialAt := goodIn_r _ [6, 7, 8, 110, 111, 112, 113, 114, 115, 116, 117, 118, 119] (by decide +kernel) (by decide +kernel)
set_option maxRecDepth 20000 in
theorem gX7_spin_X7_dialAt : GoodIn wsX7_spin (wsV RX7 68 RX7 yX7_dialAt wsX7_dialAt) := goodIn_app (goodIn_of _ (by decide +kernel)) ggX7_spin_X7_dialAt
set_option maxRecDepth 20000 in
theorem ggX7_spin_X4_told : GoodIn wsX7_spin wsX4_told := goodIn_r _ [12] (by decide +kernel) (by decide +kernel)
set_option maxRecDepth 20000 in
theorem gX7_spin_X4_told : GoodIn wsX7_spin (va_wsS RX7 52 yX4_told wsX4_told) := goodIn_app (goodIn_of _ (by decide +kernel)) ggX7_spin_X4_told
set_option maxRecDepth 20000 in
theorem ggX7_spin_X4_isFit : GoodIn wsX7_spin wsX4_isFit := goodIn_r _ [15, 16, 17, 11, 18, 19, 20, 21, 22, 23, 24, 25] (by decide +kernel) (by decide +kernel)
set_option maxRecDepth 20000 in
theorem gX7_spin_X4_isFit : GoodIn wsX7_spin (va_wsS RX7 58 yX4_isFit wsX4_isFit) := goodIn_app (goodIn_of _ (by decide +kernel)) ggX7_spin_X4_isFit
set_option maxRecDepth 20000 in
theorem ggX7_spin_X1_turnBy : GoodIn wsX7_spin wsX1_turnBy := goodIn_r _ [30, 31, 32, 33, 34, 35, 36, 11, 37, 16, 17, 18, 19, 20, 38, 39, 40, 41, 42, 43, 44, 45, 46, 47, 48, 49, 50, 51, 52, 53, 54, 55, 56, 57, 58, 59, 60, 61, 62, 63, 64, 65, 66, 67, 68, 69, 70, 71, 72, 73, 74, 75, 76, 77, 78, 79, 21, 22, 23, 24, 25, 80, 81, 82, 83, 14, 15, 84, 85, 86, 87, 88, 89, 90, 91, 92, 93, 94, 95, 106, 107, 108, 109] (by decide +kernel) (by decide +kernel)
set_option maxRecDepth 20000 in
theorem gX7_spin_X1_turnBy : GoodIn wsX7_spin (wsV RX7 76 RX1 yX1_turnBy wsX1_turnBy) := goodIn_app (goodIn_of _ (by decide +kernel)) ggX7_spin_X1_turnBy
set_option maxRecDepth 20000 in
theorem ggX7_spin_X7_failWith : GoodIn wsX7_spin wsX7_failWith := goodIn_r _ [99, 100, 101, 110, 111, 112, 113, 114, 115, 116, 117, 118, 119] (by decide +kernel) (by decide +kernel)
set_option maxRecDepth 20000 in
theorem gX7_spin_X7_failWith : GoodIn wsX7_spin (wsV RX7 84 RX7 yX7_failWith wsX7_failWith) := goodIn_app (goodIn_of _ (by decide +kernel)) ggX7_spin_X7_failWith
set_option maxRecDepth 20000 in
theorem ggX7_spin_X7_done : GoodIn wsX7_spin wsX7_done := goodIn_r _ [105, 100, 110, 111, 112, 113, 114, 115, 116, 117, 118, 119] (by decide +kernel) (by decide +kernel)
set_option maxRecDepth 20000 in
theorem gX7_spin_X7_done : GoodIn wsX7_spin (wsV RX7 80 RX7 yX7_done wsX7_done) := goodIn_app (goodIn_of _ (by decide +kernel)) ggX7_spin_X7_done
theorem dX7_spin_0 : decode cX7_spin 0 = .ok (.aload_n 0, 1) := by decide +kernel
theorem dX7_spin_1 : decode cX7_spin 1 = .ok (.iload_n 1, 1) := by decide +kernel
theorem dX7_spin_2 : decode cX7_spin 2 = .ok (.invokevirtual 68, 3) := by decide +kernel
theorem dX7_spin_5 : decode cX7_spin 5 = .ok (.astore 5, 2) := by decide +kernel
theorem dX7_spin_7 : decode cX7_spin 7 = .ok (.aload 5, 2) := by decide +kernel
theorem dX7_spin_9 : decode cX7_spin 9 = .ok (.ifnonnull 6, 3) := by decide +kernel
theorem dX7_spin_12 : decode cX7_spin 12 = .ok (.bipush (-101), 2) := by decide +kernel
theorem dX7_spin_14 : decode cX7_spin 14 = .ok (.ireturn, 1) := by decide +kernel
theorem dX7_spin_15 : decode cX7_spin 15 = .ok (.aload 5, 2) := by decide +kernel
theorem dX7_spin_17 : decode cX7_spin 17 = .ok (.getfield 72, 3) := by decide +kernel
theorem dX7_spin_20 : decode cX7_spin 20 = .ok (.lload_n 2, 1) := by decide +kernel
theorem dX7_spin_21 : decode cX7_spin 21 = .ok (.invokestatic 52, 3) := by decide +kernel
theorem dX7_spin_24 : decode cX7_spin 24 = .ok (.lstore 6, 2) := by decide +kernel
theorem dX7_spin_26 : decode cX7_spin 26 = .ok (.aload 5, 2) := by decide +kernel
theorem dX7_spin_28 : decode cX7_spin 28 = .ok (.getfield 72, 3) := by decide +kernel
theorem dX7_spin_31 : decode cX7_spin 31 = .ok (.lload 6, 2) := by decide +kernel
theorem dX7_spin_33 : decode cX7_spin 33 = .ok (.invokestatic 58, 3) := by decide +kernel
theorem dX7_spin_36 : decode cX7_spin 36 = .ok (.ifCond .eq 15, 3) := by decide +kernel
theorem dX7_spin_39 : decode cX7_spin 39 = .ok (.iload 4, 2) := by decide +kernel
theorem dX7_spin_41 : decode cX7_spin 41 = .ok (.ifCond .lt 10, 3) := by decide +kernel
theorem dX7_spin_44 : decode cX7_spin 44 = .ok (.iload 4, 2) := by decide +kernel
theorem dX7_spin_46 : decode cX7_spin 46 = .ok (.bipush 40, 2) := by decide +kernel
theorem dX7_spin_48 : decode cX7_spin 48 = .ok (.if_icmp .le 6, 3) := by decide +kernel
theorem dX7_spin_51 : decode cX7_spin 51 = .ok (.bipush (-102), 2) := by decide +kernel
theorem dX7_spin_53 : decode cX7_spin 53 = .ok (.ireturn, 1) := by decide +kernel
theorem dX7_spin_54 : decode cX7_spin 54 = .ok (.iconst 0, 1) := by decide +kernel
theorem dX7_spin_55 : decode cX7_spin 55 = .ok (.istore 8, 2) := by decide +kernel
theorem dX7_spin_57 : decode cX7_spin 57 = .ok (.iload 8, 2) := by decide +kernel
theorem dX7_spin_59 : decode cX7_spin 59 = .ok (.iload 4, 2) := by decide +kernel
theorem dX7_spin_61 : decode cX7_spin 61 = .ok (.if_icmp .ge 29, 3) := by decide +kernel
theorem dX7_spin_64 : decode cX7_spin 64 = .ok (.aload 5, 2) := by decide +kernel
theorem dX7_spin_66 : decode cX7_spin 66 = .ok (.lload 6, 2) := by decide +kernel
theorem dX7_spin_68 : decode cX7_spin 68 = .ok (.invokevirtual 76, 3) := by decide +kernel
theorem dX7_spin_71 : decode cX7_spin 71 = .ok (.ifCond .ne 13, 3) := by decide +kernel
theorem dX7_spin_74 : decode cX7_spin 74 = .ok (.aload_n 0, 1) := by decide +kernel
theorem dX7_spin_75 : decode cX7_spin 75 = .ok (.bipush (-15), 2) := by decide +kernel
theorem dX7_spin_77 : decode cX7_spin 77 = .ok (.invokevirtual 84, 3) := by decide +kernel
theorem dX7_spin_80 : decode cX7_spin 80 = .ok (.pop, 1) := by decide +kernel
theorem dX7_spin_81 : decode cX7_spin 81 = .ok (.iload 8, 2) := by decide +kernel
theorem dX7_spin_83 : decode cX7_spin 83 = .ok (.ireturn, 1) := by decide +kernel
theorem dX7_spin_84 : decode cX7_spin 84 = .ok (.iinc 8 1, 3) := by decide +kernel
theorem dX7_spin_87 : decode cX7_spin 87 = .ok (.goto (-30), 3) := by decide +kernel
theorem dX7_spin_90 : decode cX7_spin 90 = .ok (.aload_n 0, 1) := by decide +kernel
theorem dX7_spin_91 : decode cX7_spin 91 = .ok (.iload 4, 2) := by decide +kernel
theorem dX7_spin_93 : decode cX7_spin 93 = .ok (.invokevirtual 80, 3) := by decide +kernel
theorem dX7_spin_96 : decode cX7_spin 96 = .ok (.ireturn, 1) := by decide +kernel
set_option maxRecDepth 20000 in
theorem ggX7_place_X7_dialAt : GoodIn wsX7_place wsX7_dialAt := goodIn_r _ [7, 8, 9, 14, 15, 16, 17, 18, 19, 20, 21, 22, 23] (by decide +kernel) (by decide +kernel)
set_option maxRecDepth 20000 in
theorem gX7_place_X7_dialAt : GoodIn wsX7_place (wsV RX7 68 RX7 yX7_dialAt wsX7_dialAt) := goodIn_app (goodIn_of _ (by decide +kernel)) ggX7_place_X7_dialAt
theorem dX7_place_0 : decode cX7_place 0 = .ok (.aload_n 0, 1) := by decide +kernel
theorem dX7_place_1 : decode cX7_place 1 = .ok (.iload_n 1, 1) := by decide +kernel
theorem dX7_place_2 : decode cX7_place 2 = .ok (.invokevirtual 68, 3) := by decide +kernel
theorem dX7_place_5 : decode cX7_place 5 = .ok (.astore_n 3, 1) := by decide +kernel
theorem dX7_place_6 : decode cX7_place 6 = .ok (.aload_n 3, 1) := by decide +kernel
theorem dX7_place_7 : decode cX7_place 7 = .ok (.ifnonnull 5, 3) := by decide +kernel
theorem dX7_place_10 : decode cX7_place 10 = .ok (.lconst 0, 1) := by decide +kernel
theorem dX7_place_11 : decode cX7_place 11 = .ok (.lreturn, 1) := by decide +kernel
theorem dX7_place_12 : decode cX7_place 12 = .ok (.iload_n 2, 1) := by decide +kernel
theorem dX7_place_13 : decode cX7_place 13 = .ok (.ifCond .ne 8, 3) := by decide +kernel
theorem dX7_place_16 : decode cX7_place 16 = .ok (.aload_n 3, 1) := by decide +kernel
theorem dX7_place_17 : decode cX7_place 17 = .ok (.getfield 87, 3) := by decide +kernel
theorem dX7_place_20 : decode cX7_place 20 = .ok (.lreturn, 1) := by decide +kernel
theorem dX7_place_21 : decode cX7_place 21 = .ok (.iload_n 2, 1) := by decide +kernel
theorem dX7_place_22 : decode cX7_place 22 = .ok (.iconst 1, 1) := by decide +kernel
theorem dX7_place_23 : decode cX7_place 23 = .ok (.if_icmp .ne 10, 3) := by decide +kernel
theorem dX7_place_26 : decode cX7_place 26 = .ok (.aload_n 3, 1) := by decide +kernel
theorem dX7_place_27 : decode cX7_place 27 = .ok (.getfield 90, 3) := by decide +kernel
theorem dX7_place_30 : decode cX7_place 30 = .ok (.goto 4, 3) := by decide +kernel
theorem dX7_place_33 : decode cX7_place 33 = .ok (.lconst 0, 1) := by decide +kernel
theorem dX7_place_34 : decode cX7_place 34 = .ok (.lreturn, 1) := by decide +kernel
set_option maxRecDepth 20000 in
theorem ggX7_laps_X7_dialAt : GoodIn wsX7_laps wsX7_dialAt := goodIn_r _ [6, 7, 8, 13, 14, 15, 16, 17, 18, 19, 20, 21, 22] (by decide +kernel) (by decide +kernel)
set_option maxRecDepth 20000 in
theorem gX7_laps_X7_dialAt : GoodIn wsX7_laps (wsV RX7 68 RX7 yX7_dialAt wsX7_dialAt) := goodIn_app (goodIn_of _ (by decide +kernel)) ggX7_laps_X7_dialAt
theorem dX7_laps_0 : decode cX7_laps 0 = .ok (.aload_n 0, 1) := by decide +kernel
theorem dX7_laps_1 : decode cX7_laps 1 = .ok (.iload_n 1, 1) := by decide +kernel
theorem dX7_laps_2 : decode cX7_laps 2 = .ok (.invokevirtual 68, 3) := by decide +kernel
theorem dX7_laps_5 : decode cX7_laps 5 = .ok (.astore_n 2, 1) := by decide +kernel
theorem dX7_laps_6 : decode cX7_laps 6 = .ok (.aload_n 2, 1) := by decide +kernel
theorem dX7_laps_7 : decode cX7_laps 7 = .ok (.ifnonnull 7, 3) := by decide +kernel
theorem dX7_laps_10 : decode cX7_laps 10 = .ok (.lconst 0, 1) := by decide +kernel
theorem dX7_laps_11 : decode cX7_laps 11 = .ok (.goto 7, 3) := by decide +kernel
theorem dX7_laps_14 : decode cX7_laps 14 = .ok (.aload_n 2, 1) := by decide +kernel
theorem dX7_laps_15 : decode cX7_laps 15 = .ok (.getfield 93, 3) := by decide +kernel
theorem dX7_laps_18 : decode cX7_laps 18 = .ok (.lreturn, 1) := by decide +kernel
set_option maxRecDepth 20000 in
theorem ggX7_fine_X7_dialAt : GoodIn wsX7_fine wsX7_dialAt := goodIn_r _ [6, 7, 8, 13, 14, 15, 16, 17, 18, 19, 20, 21, 22] (by decide +kernel) (by decide +kernel)
set_option maxRecDepth 20000 in
theorem gX7_fine_X7_dialAt : GoodIn wsX7_fine (wsV RX7 68 RX7 yX7_dialAt wsX7_dialAt) := goodIn_app (goodIn_of _ (by decide +kernel)) ggX7_fine_X7_dialAt
theorem dX7_fine_0 : decode cX7_fine 0 = .ok (.aload_n 0, 1) := by decide +kernel
theorem dX7_fine_1 : decode cX7_fine 1 = .ok (.iload_n 1, 1) := by decide +kernel
theorem dX7_fine_2 : decode cX7_fine 2 = .ok (.invokevirtual 68, 3) := by decide +kernel
theorem dX7_fine_5 : decode cX7_fine 5 = .ok (.astore_n 2, 1) := by decide +kernel
theorem dX7_fine_6 : decode cX7_fine 6 = .ok (.aload_n 2, 1) := by decide +kernel
theorem dX7_fine_7 : decode cX7_fine 7 = .ok (.ifnonnull 6, 3) := by decide +kernel
theorem dX7_fine_10 : decode cX7_fine 10 = .ok (.bipush (-101), 2) := by decide +kernel
theorem dX7_fine_12 : decode cX7_fine 12 = .ok (.ireturn, 1) := by decide +kernel
theorem dX7_fine_13 : decode cX7_fine 13 = .ok (.aload_n 2, 1) := by decide +kernel
theorem dX7_fine_14 : decode cX7_fine 14 = .ok (.getfield 72, 3) := by decide +kernel
theorem dX7_fine_17 : decode cX7_fine 17 = .ok (.ifCond .eq 7, 3) := by decide +kernel
theorem dX7_fine_20 : decode cX7_fine 20 = .ok (.iconst 1, 1) := by decide +kernel
theorem dX7_fine_21 : decode cX7_fine 21 = .ok (.goto 4, 3) := by decide +kernel
theorem dX7_fine_24 : decode cX7_fine 24 = .ok (.iconst 0, 1) := by decide +kernel
theorem dX7_fine_25 : decode cX7_fine 25 = .ok (.ireturn, 1) := by decide +kernel
set_option maxRecDepth 20000 in
theorem ggX7_drive_X4_isFit : GoodIn wsX7_drive wsX4_isFit := goodIn_r _ [6, 7, 8, 5, 9, 10, 11, 12, 13, 14, 15, 16] (by decide +kernel) (by decide +kernel)
set_option maxRecDepth 20000 in
theorem gX7_drive_X4_isFit : GoodIn wsX7_drive (va_wsS RX7 58 yX4_isFit wsX4_isFit) := goodIn_app (goodIn_of _ (by decide +kernel)) ggX7_drive_X4_isFit
set_option maxRecDepth 20000 in
theorem ggX7_drive_X7_newDrive : GoodIn wsX7_drive wsX7_newDrive := goodIn_r _ [20, 21, 22, 23, 24, 25, 26, 27, 28, 29, 30, 31, 32, 33, 34, 35, 36, 37, 38, 39, 40, 41, 42, 43, 44, 45, 46, 47, 48, 49, 50, 51, 62, 63, 64, 65, 66, 67, 68, 69, 70, 71, 72] (by decide +kernel) (by decide +kernel)
set_option maxRecDepth 20000 in
theorem gX7_drive_X7_newDrive : GoodIn wsX7_drive (va_wsS RX7 96 yX7_newDrive wsX7_newDrive) := goodIn_app (goodIn_of _ (by decide +kernel)) ggX7_drive_X7_newDrive
theorem dX7_drive_0 : decode cX7_drive 0 = .ok (.iload_n 1, 1) := by decide +kernel
theorem dX7_drive_1 : decode cX7_drive 1 = .ok (.ifCond .lt 16, 3) := by decide +kernel
theorem dX7_drive_4 : decode cX7_drive 4 = .ok (.iload_n 1, 1) := by decide +kernel
theorem dX7_drive_5 : decode cX7_drive 5 = .ok (.iconst 2, 1) := by decide +kernel
theorem dX7_drive_6 : decode cX7_drive 6 = .ok (.if_icmp .gt 11, 3) := by decide +kernel
theorem dX7_drive_9 : decode cX7_drive 9 = .ok (.iconst 1, 1) := by decide +kernel
theorem dX7_drive_10 : decode cX7_drive 10 = .ok (.lload_n 2, 1) := by decide +kernel
theorem dX7_drive_11 : decode cX7_drive 11 = .ok (.invokestatic 58, 3) := by decide +kernel
theorem dX7_drive_14 : decode cX7_drive 14 = .ok (.ifCond .ne 6, 3) := by decide +kernel
theorem dX7_drive_17 : decode cX7_drive 17 = .ok (.bipush (-102), 2) := by decide +kernel
theorem dX7_drive_19 : decode cX7_drive 19 = .ok (.ireturn, 1) := by decide +kernel
theorem dX7_drive_20 : decode cX7_drive 20 = .ok (.aload_n 0, 1) := by decide +kernel
theorem dX7_drive_21 : decode cX7_drive 21 = .ok (.getfield 25, 3) := by decide +kernel
theorem dX7_drive_24 : decode cX7_drive 24 = .ok (.bipush 20, 2) := by decide +kernel
theorem dX7_drive_26 : decode cX7_drive 26 = .ok (.if_icmp .lt 6, 3) := by decide +kernel
theorem dX7_drive_29 : decode cX7_drive 29 = .ok (.bipush (-103), 2) := by decide +kernel
theorem dX7_drive_31 : decode cX7_drive 31 = .ok (.ireturn, 1) := by decide +kernel
theorem dX7_drive_32 : decode cX7_drive 32 = .ok (.aload_n 0, 1) := by decide +kernel
theorem dX7_drive_33 : decode cX7_drive 33 = .ok (.getfield 21, 3) := by decide +kernel
theorem dX7_drive_36 : decode cX7_drive 36 = .ok (.aload_n 0, 1) := by decide +kernel
theorem dX7_drive_37 : decode cX7_drive 37 = .ok (.getfield 25, 3) := by decide +kernel
theorem dX7_drive_40 : decode cX7_drive 40 = .ok (.iload_n 1, 1) := by decide +kernel
theorem dX7_drive_41 : decode cX7_drive 41 = .ok (.aload_n 0, 1) := by decide +kernel
theorem dX7_drive_42 : decode cX7_drive 42 = .ok (.getfield 25, 3) := by decide +kernel
theorem dX7_drive_45 : decode cX7_drive 45 = .ok (.lload_n 2, 1) := by decide +kernel
theorem dX7_drive_46 : decode cX7_drive 46 = .ok (.invokestatic 96, 3) := by decide +kernel
theorem dX7_drive_49 : decode cX7_drive 49 = .ok (.aastore, 1) := by decide +kernel
theorem dX7_drive_50 : decode cX7_drive 50 = .ok (.aload_n 0, 1) := by decide +kernel
theorem dX7_drive_51 : decode cX7_drive 51 = .ok (.dup, 1) := by decide +kernel
theorem dX7_drive_52 : decode cX7_drive 52 = .ok (.getfield 25, 3) := by decide +kernel
theorem dX7_drive_55 : decode cX7_drive 55 = .ok (.dup_x1, 1) := by decide +kernel
theorem dX7_drive_56 : decode cX7_drive 56 = .ok (.iconst 1, 1) := by decide +kernel
theorem dX7_drive_57 : decode cX7_drive 57 = .ok (.iadd, 1) := by decide +kernel
theorem dX7_drive_58 : decode cX7_drive 58 = .ok (.putfield 25, 3) := by decide +kernel
theorem dX7_drive_61 : decode cX7_drive 61 = .ok (.ireturn, 1) := by decide +kernel
set_option maxRecDepth 20000 in
theorem ggX7_fit_X7_driveAt : GoodIn wsX7_fit wsX7_driveAt := goodIn_r _ [6, 7, 8, 12, 13, 14, 15, 16, 17, 18, 19, 20, 21] (by decide +kernel) (by decide +kernel)
set_option maxRecDepth 20000 in
theorem gX7_fit_X7_driveAt : GoodIn wsX7_fit (wsV RX7 100 RX7 yX7_driveAt wsX7_driveAt) := goodIn_app (goodIn_of _ (by decide +kernel)) ggX7_fit_X7_driveAt
set_option maxRecDepth 20000 in
theorem ggX7_fit_X7_isSlot : GoodIn wsX7_fit wsX7_isSlot := goodIn_r _ [11] (by decide +kernel) (by decide +kernel)
set_option maxRecDepth 20000 in
theorem gX7_fit_X7_isSlot : GoodIn wsX7_fit (va_wsS RX7 104 yX7_isSlot wsX7_isSlot) := goodIn_app (goodIn_of _ (by decide +kernel)) ggX7_fit_X7_isSlot
theorem dX7_fit_0 : decode cX7_fit 0 = .ok (.aload_n 0, 1) := by decide +kernel
theorem dX7_fit_1 : decode cX7_fit 1 = .ok (.iload_n 2, 1) := by decide +kernel
theorem dX7_fit_2 : decode cX7_fit 2 = .ok (.invokevirtual 100, 3) := by decide +kernel
theorem dX7_fit_5 : decode cX7_fit 5 = .ok (.astore_n 3, 1) := by decide +kernel
theorem dX7_fit_6 : decode cX7_fit 6 = .ok (.iload_n 1, 1) := by decide +kernel
theorem dX7_fit_7 : decode cX7_fit 7 = .ok (.invokestatic 104, 3) := by decide +kernel
theorem dX7_fit_10 : decode cX7_fit 10 = .ok (.ifCond .eq 12, 3) := by decide +kernel
theorem dX7_fit_13 : decode cX7_fit 13 = .ok (.aload_n 3, 1) := by decide +kernel
theorem dX7_fit_14 : decode cX7_fit 14 = .ok (.ifnonnull 11, 3) := by decide +kernel
theorem dX7_fit_17 : decode cX7_fit 17 = .ok (.iload_n 2, 1) := by decide +kernel
theorem dX7_fit_18 : decode cX7_fit 18 = .ok (.iconst (-1), 1) := by decide +kernel
theorem dX7_fit_19 : decode cX7_fit 19 = .ok (.if_icmp .eq 6, 3) := by decide +kernel
theorem dX7_fit_22 : decode cX7_fit 22 = .ok (.bipush (-101), 2) := by decide +kernel
theorem dX7_fit_24 : decode cX7_fit 24 = .ok (.ireturn, 1) := by decide +kernel
theorem dX7_fit_25 : decode cX7_fit 25 = .ok (.aload_n 0, 1) := by decide +kernel
theorem dX7_fit_26 : decode cX7_fit 26 = .ok (.getfield 28, 3) := by decide +kernel
theorem dX7_fit_29 : decode cX7_fit 29 = .ok (.iload_n 1, 1) := by decide +kernel
theorem dX7_fit_30 : decode cX7_fit 30 = .ok (.aload_n 3, 1) := by decide +kernel
theorem dX7_fit_31 : decode cX7_fit 31 = .ok (.aastore, 1) := by decide +kernel
theorem dX7_fit_32 : decode cX7_fit 32 = .ok (.iconst 1, 1) := by decide +kernel
theorem dX7_fit_33 : decode cX7_fit 33 = .ok (.ireturn, 1) := by decide +kernel
set_option maxRecDepth 20000 in
theorem ggX7_pull_X7_dialAt : GoodIn wsX7_pull wsX7_dialAt := goodIn_r _ [6, 7, 8, 159, 160, 161, 162, 163, 164, 165, 166, 167, 168] (by decide +kernel) (by decide +kernel)
set_option maxRecDepth 20000 in
theorem gX7_pull_X7_dialAt : GoodIn wsX7_pull (wsV RX7 68 RX7 yX7_dialAt wsX7_dialAt) := goodIn_app (goodIn_of _ (by decide +kernel)) ggX7_pull_X7_dialAt
set_option maxRecDepth 20000 in
theorem ggX7_pull_X7_isSlot : GoodIn wsX7_pull wsX7_isSlot := goodIn_r _ [11] (by decide +kernel) (by decide +kernel)
set_option maxRecDepth 20000 in
theorem gX7_pull_X7_isSlot : GoodIn wsX7_pull (va_wsS RX7 104 yX7_isSlot wsX7_isSlot) := goodIn_app (goodIn_of _ (by decide +kernel)) ggX7_pull_X7_isSlot
set_option maxRecDepth 20000 in
theorem ggX7_pull_X7_failWith : GoodIn wsX7_pull wsX7_failWith := goodIn_r _ [15, 16, 17, 159, 160, 161, 162, 163, 164, 165, 166, 167, 168] (by decide +kernel) (by decide +kernel)
set_option maxRecDepth 20000 in
theorem gX7_pull_X7_failWith : GoodIn wsX7_pull (wsV RX7 84 RX7 yX7_failWith wsX7_failWith) := goodIn_app (goodIn_of _ (by decide +kernel)) ggX7_pull_X7_failWith
set_option maxRecDepth 20000 in
theorem ggX7_pull_X2_pullAt : GoodIn wsX7_pull wsX2_pullAt := goodIn_r _ [23, 24, 25, 26, 27, 28, 29, 30, 31, 32, 33, 34, 35, 36, 37, 38, 39, 40, 41, 42, 43, 44, 45, 46, 47, 48, 49, 50, 51, 52, 53, 54, 55, 56, 57, 58, 59, 60, 61, 62, 63, 64, 65, 66, 67, 68, 69, 70, 71, 72, 73, 74, 75, 76, 77, 78, 79, 80, 81, 82, 83, 84, 85, 86, 87, 88, 89, 90, 91, 92, 93, 94, 95, 96, 97, 98, 99, 100, 101, 102, 103, 104, 105, 106, 107, 108, 109, 110, 111, 112, 113, 114, 115, 116, 117, 118, 119, 120, 121, 122, 123, 124, 125, 126, 127, 128, 129, 130, 131, 132, 133, 134, 135, 136, 137, 138, 139, 140, 141, 142, 143, 144, 145, 146, 147, 148, 149, 150, 151, 152, 169, 170, 171, 172, 173, 174, 175, 176, 177, 178, 179, 180, 181, 182, 183] (by decide +kernel) (by decide +kernel)
set_option maxRecDepth 20000 in
theorem gX7_pull_X2_pullAt_u108X0 : GoodIn wsX7_pull (va_wsU RX7 108 RX0 "OrreryDials$Drive" ⟨"OrreryDials$Drive", "pullAt", "(LOrreryDials$Dial;)Z"⟩ yX2_pullAt wsX2_pullAt) := goodIn_app (goodIn_of _ (by decide +kernel)) ggX7_pull_X2_pullAt
set_option maxRecDepth 20000 in
theorem gX7_pull_X2_pullAt_u108X3 : GoodIn wsX7_pull (va_wsU RX7 108 RX3 "OrreryDials$Drive" ⟨"OrreryDials$Drive", "pullAt", "(LOrreryDials$Dial;)Z"⟩ yX2_pullAt wsX2_pullAt) := goodIn_app (goodIn_of _ (by decide +kernel)) ggX7_pull_X2_pullAt
set_option maxRecDepth 20000 in
theorem gX7_pull_X2_pullAt_u108X6 : GoodIn wsX7_pull (va_wsU RX7 108 RX6 "OrreryDials$Drive" ⟨"OrreryDials$Drive", "pullAt", "(LOrreryDials$Dial;)Z"⟩ yX2_pullAt wsX2_pullAt) := goodIn_app (goodIn_of _ (by decide +kernel)) ggX7_pull_X2_pullAt
set_option maxRecDepth 20000 in
theorem ggX7_pull_X7_done : GoodIn wsX7_pull wsX7_done := goodIn_r _ [158, 16, 159, 160, 161, 162, 163, 164, 165, 166, 167, 168] (by decide +kernel) (by decide +kernel)
set_option maxRecDepth 20000 in
theorem gX7_pull_X7_done : GoodIn wsX7_pull (wsV RX7 80 RX7 yX7_done wsX7_done) := goodIn_app (goodIn_of _ (by decide +kernel)) ggX7_pull_X7_done
theorem dX7_pull_0 : decode cX7_pull 0 = .ok (.aload_n 0, 1) := by decide +kernel
theorem dX7_pull_1 : decode cX7_pull 1 = .ok (.iload_n 2, 1) := by decide +kernel
theorem dX7_pull_2 : decode cX7_pull 2 = .ok (.invokevirtual 68, 3) := by decide +kernel
theorem dX7_pull_5 : decode cX7_pull 5 = .ok (.astore_n 3, 1) := by decide +kernel
theorem dX7_pull_6 : decode cX7_pull 6 = .ok (.iload_n 1, 1) := by decide +kernel
theorem dX7_pull_7 : decode cX7_pull 7 = .ok (.invokestatic 104, 3) := by decide +kernel
theorem dX7_pull_10 : decode cX7_pull 10 = .ok (.ifCond .eq 7, 3) := by decide +kernel
theorem dX7_pull_13 : decode cX7_pull 13 = .ok (.aload_n 3, 1) := by decide +kernel
theorem dX7_pull_14 : decode cX7_pull 14 = .ok (.ifnonnull 6, 3) := by decide +kernel
theorem dX7_pull_17 : decode cX7_pull 17 = .ok (.bipush (-101), 2) := by decide +kernel
theorem dX7_pull_19 : decode cX7_pull 19 = .ok (.ireturn, 1) := by decide +kernel
theorem dX7_pull_20 : decode cX7_pull 20 = .ok (.aload_n 0, 1) := by decide +kernel
theorem dX7_pull_21 : decode cX7_pull 21 = .ok (.getfield 28, 3) := by decide +kernel
theorem dX7_pull_24 : decode cX7_pull 24 = .ok (.iload_n 1, 1) := by decide +kernel
theorem dX7_pull_25 : decode cX7_pull 25 = .ok (.aaload, 1) := by decide +kernel
theorem dX7_pull_26 : decode cX7_pull 26 = .ok (.astore 4, 2) := by decide +kernel
theorem dX7_pull_28 : decode cX7_pull 28 = .ok (.aload 4, 2) := by decide +kernel
theorem dX7_pull_30 : decode cX7_pull 30 = .ok (.ifnonnull 10, 3) := by decide +kernel
theorem dX7_pull_33 : decode cX7_pull 33 = .ok (.aload_n 0, 1) := by decide +kernel
theorem dX7_pull_34 : decode cX7_pull 34 = .ok (.bipush (-11), 2) := by decide +kernel
theorem dX7_pull_36 : decode cX7_pull 36 = .ok (.invokevirtual 84, 3) := by decide +kernel
theorem dX7_pull_39 : decode cX7_pull 39 = .ok (.ireturn, 1) := by decide +kernel
theorem dX7_pull_40 : decode cX7_pull 40 = .ok (.aload 4, 2) := by decide +kernel
theorem dX7_pull_42 : decode cX7_pull 42 = .ok (.aload_n 3, 1) := by decide +kernel
theorem dX7_pull_43 : decode cX7_pull 43 = .ok (.invokevirtual 108, 3) := by decide +kernel
theorem dX7_pull_46 : decode cX7_pull 46 = .ok (.ifCond .eq 11, 3) := by decide +kernel
theorem dX7_pull_49 : decode cX7_pull 49 = .ok (.aload_n 0, 1) := by decide +kernel
theorem dX7_pull_50 : decode cX7_pull 50 = .ok (.iconst 1, 1) := by decide +kernel
theorem dX7_pull_51 : decode cX7_pull 51 = .ok (.invokevirtual 80, 3) := by decide +kernel
theorem dX7_pull_54 : decode cX7_pull 54 = .ok (.goto 9, 3) := by decide +kernel
theorem dX7_pull_57 : decode cX7_pull 57 = .ok (.aload_n 0, 1) := by decide +kernel
theorem dX7_pull_58 : decode cX7_pull 58 = .ok (.bipush (-15), 2) := by decide +kernel
theorem dX7_pull_60 : decode cX7_pull 60 = .ok (.invokevirtual 84, 3) := by decide +kernel
theorem dX7_pull_63 : decode cX7_pull 63 = .ok (.ireturn, 1) := by decide +kernel
set_option maxRecDepth 20000 in
theorem ggX7_gear_X7_isSlot : GoodIn wsX7_gear wsX7_isSlot := goodIn_r _ [7] (by decide +kernel) (by decide +kernel)
set_option maxRecDepth 20000 in
theorem gX7_gear_X7_isSlot : GoodIn wsX7_gear (va_wsS RX7 104 yX7_isSlot wsX7_isSlot) := goodIn_app (goodIn_of _ (by decide +kernel)) ggX7_gear_X7_isSlot
set_option maxRecDepth 20000 in
theorem ggX7_gear_X7_failWith : GoodIn wsX7_gear wsX7_failWith := goodIn_r _ [11, 12, 13, 18, 19, 20, 21, 22, 23, 24, 25, 26, 27] (by decide +kernel) (by decide +kernel)
set_option maxRecDepth 20000 in
theorem gX7_gear_X7_failWith : GoodIn wsX7_gear (wsV RX7 84 RX7 yX7_failWith wsX7_failWith) := goodIn_app (goodIn_of _ (by decide +kernel)) ggX7_gear_X7_failWith
set_option maxRecDepth 20000 in
theorem ggX7_gear_X7_done : GoodIn wsX7_gear wsX7_done := goodIn_r _ [17, 12, 18, 19, 20, 21, 22, 23, 24, 25, 26, 27] (by decide +kernel) (by decide +kernel)
set_option maxRecDepth 20000 in
theorem gX7_gear_X7_done : GoodIn wsX7_gear (wsV RX7 80 RX7 yX7_done wsX7_done) := goodIn_app (goodIn_of _ (by decide +kernel)) ggX7_gear_X7_done
theorem dX7_gear_0 : decode cX7_gear 0 = .ok (.iload_n 1, 1) := by decide +kernel
theorem dX7_gear_1 : decode cX7_gear 1 = .ok (.invokestatic 104, 3) := by decide +kernel
theorem dX7_gear_4 : decode cX7_gear 4 = .ok (.ifCond .ne 6, 3) := by decide +kernel
theorem dX7_gear_7 : decode cX7_gear 7 = .ok (.bipush (-101), 2) := by decide +kernel
theorem dX7_gear_9 : decode cX7_gear 9 = .ok (.ireturn, 1) := by decide +kernel
theorem dX7_gear_10 : decode cX7_gear 10 = .ok (.iload_n 2, 1) := by decide +kernel
theorem dX7_gear_11 : decode cX7_gear 11 = .ok (.sipush (-1000), 3) := by decide +kernel
theorem dX7_gear_14 : decode cX7_gear 14 = .ok (.if_icmp .lt 10, 3) := by decide +kernel
theorem dX7_gear_17 : decode cX7_gear 17 = .ok (.iload_n 2, 1) := by decide +kernel
theorem dX7_gear_18 : decode cX7_gear 18 = .ok (.sipush 1000, 3) := by decide +kernel
theorem dX7_gear_21 : decode cX7_gear 21 = .ok (.if_icmp .le 6, 3) := by decide +kernel
theorem dX7_gear_24 : decode cX7_gear 24 = .ok (.bipush (-102), 2) := by decide +kernel
theorem dX7_gear_26 : decode cX7_gear 26 = .ok (.ireturn, 1) := by decide +kernel
theorem dX7_gear_27 : decode cX7_gear 27 = .ok (.aload_n 0, 1) := by decide +kernel
theorem dX7_gear_28 : decode cX7_gear 28 = .ok (.getfield 28, 3) := by decide +kernel
theorem dX7_gear_31 : decode cX7_gear 31 = .ok (.iload_n 1, 1) := by decide +kernel
theorem dX7_gear_32 : decode cX7_gear 32 = .ok (.aaload, 1) := by decide +kernel
theorem dX7_gear_33 : decode cX7_gear 33 = .ok (.astore_n 3, 1) := by decide +kernel
theorem dX7_gear_34 : decode cX7_gear 34 = .ok (.aload_n 3, 1) := by decide +kernel
theorem dX7_gear_35 : decode cX7_gear 35 = .ok (.ifnonnull 10, 3) := by decide +kernel
theorem dX7_gear_38 : decode cX7_gear 38 = .ok (.aload_n 0, 1) := by decide +kernel
theorem dX7_gear_39 : decode cX7_gear 39 = .ok (.bipush (-11), 2) := by decide +kernel
theorem dX7_gear_41 : decode cX7_gear 41 = .ok (.invokevirtual 84, 3) := by decide +kernel
theorem dX7_gear_44 : decode cX7_gear 44 = .ok (.ireturn, 1) := by decide +kernel
theorem dX7_gear_45 : decode cX7_gear 45 = .ok (.aload_n 3, 1) := by decide +kernel
theorem dX7_gear_46 : decode cX7_gear 46 = .ok (.instanceof 112, 3) := by decide +kernel
theorem dX7_gear_49 : decode cX7_gear 49 = .ok (.ifCond .eq 29, 3) := by decide +kernel
theorem dX7_gear_52 : decode cX7_gear 52 = .ok (.aload_n 3, 1) := by decide +kernel
theorem dX7_gear_53 : decode cX7_gear 53 = .ok (.checkcast 112, 3) := by decide +kernel
theorem dX7_gear_56 : decode cX7_gear 56 = .ok (.astore 4, 2) := by decide +kernel
theorem dX7_gear_58 : decode cX7_gear 58 = .ok (.aload 4, 2) := by decide +kernel
theorem dX7_gear_60 : decode cX7_gear 60 = .ok (.getfield 114, 3) := by decide +kernel
theorem dX7_gear_63 : decode cX7_gear 63 = .ok (.istore 5, 2) := by decide +kernel
theorem dX7_gear_65 : decode cX7_gear 65 = .ok (.aload 4, 2) := by decide +kernel
theorem dX7_gear_67 : decode cX7_gear 67 = .ok (.iload_n 2, 1) := by decide +kernel
theorem dX7_gear_68 : decode cX7_gear 68 = .ok (.putfield 114, 3) := by decide +kernel
theorem dX7_gear_71 : decode cX7_gear 71 = .ok (.aload_n 0, 1) := by decide +kernel
theorem dX7_gear_72 : decode cX7_gear 72 = .ok (.iload 5, 2) := by decide +kernel
theorem dX7_gear_74 : decode cX7_gear 74 = .ok (.invokevirtual 80, 3) := by decide +kernel
theorem dX7_gear_77 : decode cX7_gear 77 = .ok (.ireturn, 1) := by decide +kernel
theorem dX7_gear_78 : decode cX7_gear 78 = .ok (.aload_n 0, 1) := by decide +kernel
theorem dX7_gear_79 : decode cX7_gear 79 = .ok (.bipush (-13), 2) := by decide +kernel
theorem dX7_gear_81 : decode cX7_gear 81 = .ok (.invokevirtual 84, 3) := by decide +kernel
theorem dX7_gear_84 : decode cX7_gear 84 = .ok (.ireturn, 1) := by decide +kernel
set_option maxRecDepth 20000 in
theorem ggX7_lay_X7_isShaft : GoodIn wsX7_lay wsX7_isShaft := goodIn_r _ [7] (by decide +kernel) (by decide +kernel)
set_option maxRecDepth 20000 in
theorem gX7_lay_X7_isShaft : GoodIn wsX7_lay (va_wsS RX7 117 yX7_isShaft wsX7_isShaft) := goodIn_app (goodIn_of _ (by decide +kernel)) ggX7_lay_X7_isShaft
set_option maxRecDepth 20000 in
theorem ggX7_lay_X7_isSlot : GoodIn wsX7_lay wsX7_isSlot := goodIn_r _ [10] (by decide +kernel) (by decide +kernel)
set_option maxRecDepth 20000 in
theorem gX7_lay_X7_isSlot : GoodIn wsX7_lay (va_wsS RX7 104 yX7_isSlot wsX7_isSlot) := goodIn_app (goodIn_of _ (by decide +kernel)) ggX7_lay_X7_isSlot
set_option maxRecDepth 20000 in
theorem ggX7_lay_X7_isShaftPlace : GoodIn wsX7_lay wsX7_isShaftPlace := goodIn_r _ [13] (by decide +kernel) (by decide +kernel)
set_option maxRecDepth 20000 in
theorem gX7_lay_X7_isShaftPlace : GoodIn wsX7_lay (va_wsS RX7 120 yX7_isShaftPlace wsX7_isShaftPlace) := goodIn_app (goodIn_of _ (by decide +kernel)) ggX7_lay_X7_isShaftPlace
set_option maxRecDepth 20000 in
theorem ggX7_lay_X7_failWith : GoodIn wsX7_lay wsX7_failWith := goodIn_r _ [17, 18, 19, 24, 25, 26, 27, 28, 29, 30, 31, 32, 33] (by decide +kernel) (by decide +kernel)
set_option maxRecDepth 20000 in
theorem gX7_lay_X7_failWith : GoodIn wsX7_lay (wsV RX7 84 RX7 yX7_failWith wsX7_failWith) := goodIn_app (goodIn_of _ (by decide +kernel)) ggX7_lay_X7_failWith
set_option maxRecDepth 20000 in
theorem ggX7_lay_X7_done : GoodIn wsX7_lay wsX7_done := goodIn_r _ [23, 18, 24, 25, 26, 27, 28, 29, 30, 31, 32, 33] (by decide +kernel) (by decide +kernel)
set_option maxRecDepth 20000 in
theorem gX7_lay_X7_done : GoodIn wsX7_lay (wsV RX7 80 RX7 yX7_done wsX7_done) := goodIn_app (goodIn_of _ (by decide +kernel)) ggX7_lay_X7_done
theorem dX7_lay_0 : decode cX7_lay 0 = .ok (.iload_n 1, 1) := by decide +kernel
theorem dX7_lay_1 : decode cX7_lay 1 = .ok (.invokestatic 117, 3) := by decide +kernel
theorem dX7_lay_4 : decode cX7_lay 4 = .ok (.ifCond .eq 10, 3) := by decide +kernel
theorem dX7_lay_7 : decode cX7_lay 7 = .ok (.iload_n 3, 1) := by decide +kernel
theorem dX7_lay_8 : decode cX7_lay 8 = .ok (.invokestatic 104, 3) := by decide +kernel
theorem dX7_lay_11 : decode cX7_lay 11 = .ok (.ifCond .ne 6, 3) := by decide +kernel
theorem dX7_lay_14 : decode cX7_lay 14 = .ok (.bipush (-101), 2) := by decide +kernel
theorem dX7_lay_16 : decode cX7_lay 16 = .ok (.ireturn, 1) := by decide +kernel
theorem dX7_lay_17 : decode cX7_lay 17 = .ok (.iload_n 2, 1) := by decide +kernel
theorem dX7_lay_18 : decode cX7_lay 18 = .ok (.invokestatic 120, 3) := by decide +kernel
theorem dX7_lay_21 : decode cX7_lay 21 = .ok (.ifCond .ne 10, 3) := by decide +kernel
theorem dX7_lay_24 : decode cX7_lay 24 = .ok (.aload_n 0, 1) := by decide +kernel
theorem dX7_lay_25 : decode cX7_lay 25 = .ok (.bipush (-12), 2) := by decide +kernel
theorem dX7_lay_27 : decode cX7_lay 27 = .ok (.invokevirtual 84, 3) := by decide +kernel
theorem dX7_lay_30 : decode cX7_lay 30 = .ok (.ireturn, 1) := by decide +kernel
theorem dX7_lay_31 : decode cX7_lay 31 = .ok (.aload_n 0, 1) := by decide +kernel
theorem dX7_lay_32 : decode cX7_lay 32 = .ok (.getfield 28, 3) := by decide +kernel
theorem dX7_lay_35 : decode cX7_lay 35 = .ok (.iload_n 3, 1) := by decide +kernel
theorem dX7_lay_36 : decode cX7_lay 36 = .ok (.aaload, 1) := by decide +kernel
theorem dX7_lay_37 : decode cX7_lay 37 = .ok (.astore 4, 2) := by decide +kernel
theorem dX7_lay_39 : decode cX7_lay 39 = .ok (.iload_n 1, 1) := by decide +kernel
theorem dX7_lay_40 : decode cX7_lay 40 = .ok (.iconst 1, 1) := by decide +kernel
theorem dX7_lay_41 : decode cX7_lay 41 = .ok (.if_icmp .ne 23, 3) := by decide +kernel
theorem dX7_lay_44 : decode cX7_lay 44 = .ok (.aload 4, 2) := by decide +kernel
theorem dX7_lay_46 : decode cX7_lay 46 = .ok (.ifnull 18, 3) := by decide +kernel
theorem dX7_lay_49 : decode cX7_lay 49 = .ok (.aload 4, 2) := by decide +kernel
theorem dX7_lay_51 : decode cX7_lay 51 = .ok (.instanceof 112, 3) := by decide +kernel
theorem dX7_lay_54 : decode cX7_lay 54 = .ok (.ifCond .ne 10, 3) := by decide +kernel
theorem dX7_lay_57 : decode cX7_lay 57 = .ok (.aload_n 0, 1) := by decide +kernel
theorem dX7_lay_58 : decode cX7_lay 58 = .ok (.bipush (-14), 2) := by decide +kernel
theorem dX7_lay_60 : decode cX7_lay 60 = .ok (.invokevirtual 84, 3) := by decide +kernel
theorem dX7_lay_63 : decode cX7_lay 63 = .ok (.ireturn, 1) := by decide +kernel
theorem dX7_lay_64 : decode cX7_lay 64 = .ok (.aload_n 0, 1) := by decide +kernel
theorem dX7_lay_65 : decode cX7_lay 65 = .ok (.getfield 31, 3) := by decide +kernel
theorem dX7_lay_68 : decode cX7_lay 68 = .ok (.iload_n 1, 1) := by decide +kernel
theorem dX7_lay_69 : decode cX7_lay 69 = .ok (.iconst 4, 1) := by decide +kernel
theorem dX7_lay_70 : decode cX7_lay 70 = .ok (.imul, 1) := by decide +kernel
theorem dX7_lay_71 : decode cX7_lay 71 = .ok (.iload_n 2, 1) := by decide +kernel
theorem dX7_lay_72 : decode cX7_lay 72 = .ok (.iadd, 1) := by decide +kernel
theorem dX7_lay_73 : decode cX7_lay 73 = .ok (.aload 4, 2) := by decide +kernel
theorem dX7_lay_75 : decode cX7_lay 75 = .ok (.aastore, 1) := by decide +kernel
theorem dX7_lay_76 : decode cX7_lay 76 = .ok (.aload_n 0, 1) := by decide +kernel
theorem dX7_lay_77 : decode cX7_lay 77 = .ok (.iconst 1, 1) := by decide +kernel
theorem dX7_lay_78 : decode cX7_lay 78 = .ok (.invokevirtual 80, 3) := by decide +kernel
theorem dX7_lay_81 : decode cX7_lay 81 = .ok (.ireturn, 1) := by decide +kernel
set_option maxRecDepth 20000 in
theorem ggX7_wind_X7_dialAt : GoodIn wsX7_wind wsX7_dialAt := goodIn_r _ [6, 7, 8, 159, 160, 161, 162, 163, 164, 165, 166, 167, 168] (by decide +kernel) (by decide +kernel)
set_option maxRecDepth 20000 in
theorem gX7_wind_X7_dialAt : GoodIn wsX7_wind (wsV RX7 68 RX7 yX7_dialAt wsX7_dialAt) := goodIn_app (goodIn_of _ (by decide +kernel)) ggX7_wind_X7_dialAt
set_option maxRecDepth 20000 in
theorem ggX7_wind_X7_isShaft : GoodIn wsX7_wind wsX7_isShaft := goodIn_r _ [11] (by decide +kernel) (by decide +kernel)
set_option maxRecDepth 20000 in
theorem gX7_wind_X7_isShaft : GoodIn wsX7_wind (va_wsS RX7 117 yX7_isShaft wsX7_isShaft) := goodIn_app (goodIn_of _ (by decide +kernel)) ggX7_wind_X7_isShaft
set_option maxRecDepth 20000 in
theorem ggX7_wind_X7_failWith : GoodIn wsX7_wind wsX7_failWith := goodIn_r _ [15, 16, 17, 159, 160, 161, 162, 163, 164, 165, 166, 167, 168] (by decide +kernel) (by decide +kernel)
set_option maxRecDepth 20000 in
theorem gX7_wind_X7_failWith : GoodIn wsX7_wind (wsV RX7 84 RX7 yX7_failWith wsX7_failWith) := goodIn_app (goodIn_of _ (by decide +kernel)) ggX7_wind_X7_failWith
set_option maxRecDepth 20000 in
theorem ggX7_wind_X2_pullAt : GoodIn wsX7_wind wsX2_pullAt := goodIn_r _ [23, 24, 25, 26, 27, 28, 29, 30, 31, 32, 33, 34, 35, 36, 37, 38, 39, 40, 41, 42, 43, 44, 45, 46, 47, 48, 49, 50, 51, 52, 53, 54, 55, 56, 57, 58, 59, 60, 61, 62, 63, 64, 65, 66, 67, 68, 69, 70, 71, 72, 73, 74, 75, 76, 77, 78, 79, 80, 81, 82, 83, 84, 85, 86, 87, 88, 89, 90, 91, 92, 93, 94, 95, 96, 97, 98, 99, 100, 101, 102, 103, 104, 105, 106, 107, 108, 109, 110, 111, 112, 113, 114, 115, 116, 117, 118, 119, 120, 121, 122, 123, 124, 125, 126, 127, 128, 129, 130, 131, 132, 133, 134, 135, 136, 137, 138, 139, 140, 141, 142, 143, 144, 145, 146, 147, 148, 149, 150, 151, 152, 169, 170, 171, 172, 173, 174, 175, 176, 177, 178, 179, 180, 181, 182, 183] (by decide +kernel) (by decide +kernel)
set_option maxRecDepth 20000 in
theorem gX7_wind_X2_pullAt_u108X0 : GoodIn wsX7_wind (va_wsU RX7 108 RX0 "OrreryDials$Drive" ⟨"OrreryDials$Drive", "pullAt", "(LOrreryDials$Dial;)Z"⟩ yX2_pullAt wsX2_pullAt) := goodIn_app (goodIn_of _ (by decide +kernel)) ggX7_wind_X2_pullAt
set_option maxRecDepth 20000 in
theorem gX7_wind_X2_pullAt_u108X3 : GoodIn wsX7_wind (va_wsU RX7 108 RX3 "OrreryDials$Drive" ⟨"OrreryDials$Drive", "pullAt", "(LOrreryDials$Dial;)Z"⟩ yX2_pullAt wsX2_pullAt) := goodIn_app (goodIn_of _ (by decide +kernel)) ggX7_wind_X2_pullAt
set_option maxRecDepth 20000 in
theorem gX7_wind_X2_pullAt_u108X6 : GoodIn wsX7_wind (va_wsU RX7 108 RX6 "OrreryDials$Drive" ⟨"OrreryDials$Drive", "pullAt", "(LOrreryDials$Dial;)Z"⟩ yX2_pullAt wsX2_pullAt) := goodIn_app (goodIn_of _ (by decide +kernel)) ggX7_wind_X2_pullAt
set_option maxRecDepth 20000 in
theorem ggX7_wind_X7_done : GoodIn wsX7_wind wsX7_done := goodIn_r _ [158, 16, 159, 160, 161, 162, 163, 164, 165, 166, 167, 168] (by decide +kernel) (by decide +kernel)
set_option maxRecDepth 20000 in
theorem gX7_wind_X7_done : GoodIn wsX7_wind (wsV RX7 80 RX7 yX7_done wsX7_done) := goodIn_app (goodIn_of _ (by decide +kernel)) ggX7_wind_X7_done
theorem dX7_wind_0 : decode cX7_wind 0 = .ok (.aload_n 0, 1) := by decide +kernel
theorem dX7_wind_1 : decode cX7_wind 1 = .ok (.iload_n 2, 1) := by decide +kernel
theorem dX7_wind_2 : decode cX7_wind 2 = .ok (.invokevirtual 68, 3) := by decide +kernel
theorem dX7_wind_5 : decode cX7_wind 5 = .ok (.astore_n 3, 1) := by decide +kernel
theorem dX7_wind_6 : decode cX7_wind 6 = .ok (.iload_n 1, 1) := by decide +kernel
theorem dX7_wind_7 : decode cX7_wind 7 = .ok (.invokestatic 117, 3) := by decide +kernel
theorem dX7_wind_10 : decode cX7_wind 10 = .ok (.ifCond .eq 7, 3) := by decide +kernel
theorem dX7_wind_13 : decode cX7_wind 13 = .ok (.aload_n 3, 1) := by decide +kernel
theorem dX7_wind_14 : decode cX7_wind 14 = .ok (.ifnonnull 6, 3) := by decide +kernel
theorem dX7_wind_17 : decode cX7_wind 17 = .ok (.bipush (-101), 2) := by decide +kernel
theorem dX7_wind_19 : decode cX7_wind 19 = .ok (.ireturn, 1) := by decide +kernel
theorem dX7_wind_20 : decode cX7_wind 20 = .ok (.iconst 0, 1) := by decide +kernel
theorem dX7_wind_21 : decode cX7_wind 21 = .ok (.istore 4, 2) := by decide +kernel
theorem dX7_wind_23 : decode cX7_wind 23 = .ok (.iload 4, 2) := by decide +kernel
theorem dX7_wind_25 : decode cX7_wind 25 = .ok (.iconst 4, 1) := by decide +kernel
theorem dX7_wind_26 : decode cX7_wind 26 = .ok (.if_icmp .ge 56, 3) := by decide +kernel
theorem dX7_wind_29 : decode cX7_wind 29 = .ok (.aload_n 0, 1) := by decide +kernel
theorem dX7_wind_30 : decode cX7_wind 30 = .ok (.getfield 31, 3) := by decide +kernel
theorem dX7_wind_33 : decode cX7_wind 33 = .ok (.iload_n 1, 1) := by decide +kernel
theorem dX7_wind_34 : decode cX7_wind 34 = .ok (.iconst 4, 1) := by decide +kernel
theorem dX7_wind_35 : decode cX7_wind 35 = .ok (.imul, 1) := by decide +kernel
theorem dX7_wind_36 : decode cX7_wind 36 = .ok (.iload 4, 2) := by decide +kernel
theorem dX7_wind_38 : decode cX7_wind 38 = .ok (.iadd, 1) := by decide +kernel
theorem dX7_wind_39 : decode cX7_wind 39 = .ok (.aaload, 1) := by decide +kernel
theorem dX7_wind_40 : decode cX7_wind 40 = .ok (.astore 5, 2) := by decide +kernel
theorem dX7_wind_42 : decode cX7_wind 42 = .ok (.aload 5, 2) := by decide +kernel
theorem dX7_wind_44 : decode cX7_wind 44 = .ok (.ifnonnull 13, 3) := by decide +kernel
theorem dX7_wind_47 : decode cX7_wind 47 = .ok (.aload_n 0, 1) := by decide +kernel
theorem dX7_wind_48 : decode cX7_wind 48 = .ok (.bipush (-11), 2) := by decide +kernel
theorem dX7_wind_50 : decode cX7_wind 50 = .ok (.invokevirtual 84, 3) := by decide +kernel
theorem dX7_wind_53 : decode cX7_wind 53 = .ok (.pop, 1) := by decide +kernel
theorem dX7_wind_54 : decode cX7_wind 54 = .ok (.iload 4, 2) := by decide +kernel
theorem dX7_wind_56 : decode cX7_wind 56 = .ok (.ireturn, 1) := by decide +kernel
theorem dX7_wind_57 : decode cX7_wind 57 = .ok (.aload 5, 2) := by decide +kernel
theorem dX7_wind_59 : decode cX7_wind 59 = .ok (.aload_n 3, 1) := by decide +kernel
theorem dX7_wind_60 : decode cX7_wind 60 = .ok (.invokevirtual 108, 3) := by decide +kernel
theorem dX7_wind_63 : decode cX7_wind 63 = .ok (.ifCond .ne 13, 3) := by decide +kernel
theorem dX7_wind_66 : decode cX7_wind 66 = .ok (.aload_n 0, 1) := by decide +kernel
theorem dX7_wind_67 : decode cX7_wind 67 = .ok (.bipush (-15), 2) := by decide +kernel
theorem dX7_wind_69 : decode cX7_wind 69 = .ok (.invokevirtual 84, 3) := by decide +kernel
theorem dX7_wind_72 : decode cX7_wind 72 = .ok (.pop, 1) := by decide +kernel
theorem dX7_wind_73 : decode cX7_wind 73 = .ok (.iload 4, 2) := by decide +kernel
theorem dX7_wind_75 : decode cX7_wind 75 = .ok (.ireturn, 1) := by decide +kernel
theorem dX7_wind_76 : decode cX7_wind 76 = .ok (.iinc 4 1, 3) := by decide +kernel
theorem dX7_wind_79 : decode cX7_wind 79 = .ok (.goto (-56), 3) := by decide +kernel
theorem dX7_wind_82 : decode cX7_wind 82 = .ok (.aload_n 0, 1) := by decide +kernel
theorem dX7_wind_83 : decode cX7_wind 83 = .ok (.iconst 4, 1) := by decide +kernel
theorem dX7_wind_84 : decode cX7_wind 84 = .ok (.invokevirtual 80, 3) := by decide +kernel
theorem dX7_wind_87 : decode cX7_wind 87 = .ok (.ireturn, 1) := by decide +kernel
set_option maxRecDepth 20000 in
theorem ggX7_laid_X7_isShaft : GoodIn wsX7_laid wsX7_isShaft := goodIn_r _ [6] (by decide +kernel) (by decide +kernel)
set_option maxRecDepth 20000 in
theorem gX7_laid_X7_isShaft : GoodIn wsX7_laid (va_wsS RX7 117 yX7_isShaft wsX7_isShaft) := goodIn_app (goodIn_of _ (by decide +kernel)) ggX7_laid_X7_isShaft
set_option maxRecDepth 20000 in
theorem ggX7_laid_X7_isShaftPlace : GoodIn wsX7_laid wsX7_isShaftPlace := goodIn_r _ [9] (by decide +kernel) (by decide +kernel)
set_option maxRecDepth 20000 in
theorem gX7_laid_X7_isShaftPlace : GoodIn wsX7_laid (va_wsS RX7 120 yX7_isShaftPlace wsX7_isShaftPlace) := goodIn_app (goodIn_of _ (by decide +kernel)) ggX7_laid_X7_isShaftPlace
set_option maxRecDepth 20000 in
theorem ggX7_laid_X7_failWith : GoodIn wsX7_laid wsX7_failWith := goodIn_r _ [13, 14, 15, 20, 21, 22, 23, 24, 25, 26, 27, 28, 29] (by decide +kernel) (by decide +kernel)
set_option maxRecDepth 20000 in
theorem gX7_laid_X7_failWith : GoodIn wsX7_laid (wsV RX7 84 RX7 yX7_failWith wsX7_failWith) := goodIn_app (goodIn_of _ (by decide +kernel)) ggX7_laid_X7_failWith
set_option maxRecDepth 20000 in
theorem ggX7_laid_X7_done : GoodIn wsX7_laid wsX7_done := goodIn_r _ [19, 14, 20, 21, 22, 23, 24, 25, 26, 27, 28, 29] (by decide +kernel) (by decide +kernel)
set_option maxRecDepth 20000 in
theorem gX7_laid_X7_done : GoodIn wsX7_laid (wsV RX7 80 RX7 yX7_done wsX7_done) := goodIn_app (goodIn_of _ (by decide +kernel)) ggX7_laid_X7_done
theorem dX7_laid_0 : decode cX7_laid 0 = .ok (.iload_n 1, 1) := by decide +kernel
theorem dX7_laid_1 : decode cX7_laid 1 = .ok (.invokestatic 117, 3) := by decide +kernel
theorem dX7_laid_4 : decode cX7_laid 4 = .ok (.ifCond .ne 6, 3) := by decide +kernel
theorem dX7_laid_7 : decode cX7_laid 7 = .ok (.bipush (-101), 2) := by decide +kernel
theorem dX7_laid_9 : decode cX7_laid 9 = .ok (.ireturn, 1) := by decide +kernel
theorem dX7_laid_10 : decode cX7_laid 10 = .ok (.iload_n 2, 1) := by decide +kernel
theorem dX7_laid_11 : decode cX7_laid 11 = .ok (.invokestatic 120, 3) := by decide +kernel
theorem dX7_laid_14 : decode cX7_laid 14 = .ok (.ifCond .ne 10, 3) := by decide +kernel
theorem dX7_laid_17 : decode cX7_laid 17 = .ok (.aload_n 0, 1) := by decide +kernel
theorem dX7_laid_18 : decode cX7_laid 18 = .ok (.bipush (-12), 2) := by decide +kernel
theorem dX7_laid_20 : decode cX7_laid 20 = .ok (.invokevirtual 84, 3) := by decide +kernel
theorem dX7_laid_23 : decode cX7_laid 23 = .ok (.ireturn, 1) := by decide +kernel
theorem dX7_laid_24 : decode cX7_laid 24 = .ok (.aload_n 0, 1) := by decide +kernel
theorem dX7_laid_25 : decode cX7_laid 25 = .ok (.getfield 31, 3) := by decide +kernel
theorem dX7_laid_28 : decode cX7_laid 28 = .ok (.iload_n 1, 1) := by decide +kernel
theorem dX7_laid_29 : decode cX7_laid 29 = .ok (.iconst 4, 1) := by decide +kernel
theorem dX7_laid_30 : decode cX7_laid 30 = .ok (.imul, 1) := by decide +kernel
theorem dX7_laid_31 : decode cX7_laid 31 = .ok (.iload_n 2, 1) := by decide +kernel
theorem dX7_laid_32 : decode cX7_laid 32 = .ok (.iadd, 1) := by decide +kernel
theorem dX7_laid_33 : decode cX7_laid 33 = .ok (.aaload, 1) := by decide +kernel
theorem dX7_laid_34 : decode cX7_laid 34 = .ok (.astore_n 3, 1) := by decide +kernel
theorem dX7_laid_35 : decode cX7_laid 35 = .ok (.aload_n 0, 1) := by decide +kernel
theorem dX7_laid_36 : decode cX7_laid 36 = .ok (.aload_n 3, 1) := by decide +kernel
theorem dX7_laid_37 : decode cX7_laid 37 = .ok (.ifnonnull 7, 3) := by decide +kernel
theorem dX7_laid_40 : decode cX7_laid 40 = .ok (.iconst (-1), 1) := by decide +kernel
theorem dX7_laid_41 : decode cX7_laid 41 = .ok (.goto 7, 3) := by decide +kernel
theorem dX7_laid_44 : decode cX7_laid 44 = .ok (.aload_n 3, 1) := by decide +kernel
theorem dX7_laid_45 : decode cX7_laid 45 = .ok (.getfield 123, 3) := by decide +kernel
theorem dX7_laid_48 : decode cX7_laid 48 = .ok (.invokevirtual 80, 3) := by decide +kernel
theorem dX7_laid_51 : decode cX7_laid 51 = .ok (.ireturn, 1) := by decide +kernel
set_option maxRecDepth 20000 in
theorem ggX7_pulls_X7_driveAt : GoodIn wsX7_pulls wsX7_driveAt := goodIn_r _ [6, 7, 8, 20, 21, 22, 23, 24, 25, 26, 27, 28, 29] (by decide +kernel) (by decide +kernel)
set_option maxRecDepth 20000 in
theorem gX7_pulls_X7_driveAt : GoodIn wsX7_pulls (wsV RX7 100 RX7 yX7_driveAt wsX7_driveAt) := goodIn_app (goodIn_of _ (by decide +kernel)) ggX7_pulls_X7_driveAt
theorem dX7_pulls_0 : decode cX7_pulls 0 = .ok (.aload_n 0, 1) := by decide +kernel
theorem dX7_pulls_1 : decode cX7_pulls 1 = .ok (.iload_n 1, 1) := by decide +kernel
theorem dX7_pulls_2 : decode cX7_pulls 2 = .ok (.invokevirtual 100, 3) := by decide +kernel
theorem dX7_pulls_5 : decode cX7_pulls 5 = .ok (.astore_n 2, 1) := by decide +kernel
theorem dX7_pulls_6 : decode cX7_pulls 6 = .ok (.aload_n 2, 1) := by decide +kernel
theorem dX7_pulls_7 : decode cX7_pulls 7 = .ok (.ifnonnull 8, 3) := by decide +kernel
theorem dX7_pulls_10 : decode cX7_pulls 10 = .ok (.bipush (-101), 2) := by decide +kernel
theorem dX7_pulls_12 : decode cX7_pulls 12 = .ok (.goto 7, 3) := by decide +kernel
theorem dX7_pulls_15 : decode cX7_pulls 15 = .ok (.aload_n 2, 1) := by decide +kernel
theorem dX7_pulls_16 : decode cX7_pulls 16 = .ok (.getfield 126, 3) := by decide +kernel
theorem dX7_pulls_19 : decode cX7_pulls 19 = .ok (.ireturn, 1) := by decide +kernel
set_option maxRecDepth 20000 in
theorem ggX7_log_X7_rowAt : GoodIn wsX7_log wsX7_rowAt := goodIn_r _ [5, 6, 14, 15, 16, 17, 18, 19, 20, 21, 22, 23] (by decide +kernel) (by decide +kernel)
set_option maxRecDepth 20000 in
theorem gX7_log_X7_rowAt : GoodIn wsX7_log (wsV RX7 129 RX7 yX7_rowAt wsX7_rowAt) := goodIn_app (goodIn_of _ (by decide +kernel)) ggX7_log_X7_rowAt
set_option maxRecDepth 20000 in
theorem ggX7_log_X5_renew : GoodIn wsX7_log wsX5_renew := goodIn_r _ [11, 12, 13, 24, 25] (by decide +kernel) (by decide +kernel)
set_option maxRecDepth 20000 in
theorem gX7_log_X5_renew : GoodIn wsX7_log (wsV RX7 133 RX5 yX5_renew wsX5_renew) := goodIn_app (goodIn_of _ (by decide +kernel)) ggX7_log_X5_renew
theorem dX7_log_0 : decode cX7_log 0 = .ok (.aload_n 0, 1) := by decide +kernel
theorem dX7_log_1 : decode cX7_log 1 = .ok (.iload_n 1, 1) := by decide +kernel
theorem dX7_log_2 : decode cX7_log 2 = .ok (.iload_n 2, 1) := by decide +kernel
theorem dX7_log_3 : decode cX7_log 3 = .ok (.invokevirtual 129, 3) := by decide +kernel
theorem dX7_log_6 : decode cX7_log 6 = .ok (.astore 4, 2) := by decide +kernel
theorem dX7_log_8 : decode cX7_log 8 = .ok (.aload 4, 2) := by decide +kernel
theorem dX7_log_10 : decode cX7_log 10 = .ok (.ifnonnull 6, 3) := by decide +kernel
theorem dX7_log_13 : decode cX7_log 13 = .ok (.bipush (-101), 2) := by decide +kernel
theorem dX7_log_15 : decode cX7_log 15 = .ok (.ireturn, 1) := by decide +kernel
theorem dX7_log_16 : decode cX7_log 16 = .ok (.iload_n 3, 1) := by decide +kernel
theorem dX7_log_17 : decode cX7_log 17 = .ok (.iconst (-1), 1) := by decide +kernel
theorem dX7_log_18 : decode cX7_log 18 = .ok (.if_icmp .lt 9, 3) := by decide +kernel
theorem dX7_log_21 : decode cX7_log 21 = .ok (.iload_n 3, 1) := by decide +kernel
theorem dX7_log_22 : decode cX7_log 22 = .ok (.bipush 16, 2) := by decide +kernel
theorem dX7_log_24 : decode cX7_log 24 = .ok (.if_icmp .le 6, 3) := by decide +kernel
theorem dX7_log_27 : decode cX7_log 27 = .ok (.bipush (-102), 2) := by decide +kernel
theorem dX7_log_29 : decode cX7_log 29 = .ok (.ireturn, 1) := by decide +kernel
theorem dX7_log_30 : decode cX7_log 30 = .ok (.aload 4, 2) := by decide +kernel
theorem dX7_log_32 : decode cX7_log 32 = .ok (.iload_n 3, 1) := by decide +kernel
theorem dX7_log_33 : decode cX7_log 33 = .ok (.invokevirtual 133, 3) := by decide +kernel
theorem dX7_log_36 : decode cX7_log 36 = .ok (.iconst 1, 1) := by decide +kernel
theorem dX7_log_37 : decode cX7_log 37 = .ok (.ireturn, 1) := by decide +kernel
set_option maxRecDepth 20000 in
theorem ggX7_write_X7_rowAt : GoodIn wsX7_write wsX7_rowAt := goodIn_r _ [6, 7, 47, 48, 49, 50, 51, 52, 53, 54, 55, 56] (by decide +kernel) (by decide +kernel)
set_option maxRecDepth 20000 in
theorem gX7_write_X7_rowAt : GoodIn wsX7_write (wsV RX7 129 RX7 yX7_rowAt wsX7_rowAt) := goodIn_app (goodIn_of _ (by decide +kernel)) ggX7_write_X7_rowAt
set_option maxRecDepth 20000 in
theorem ggX7_write_X4_told : GoodIn wsX7_write wsX4_told := goodIn_r _ [11] (by decide +kernel) (by decide +kernel)
set_option maxRecDepth 20000 in
theorem gX7_write_X4_told : GoodIn wsX7_write (va_wsS RX7 52 yX4_told wsX4_told) := goodIn_app (goodIn_of _ (by decide +kernel)) ggX7_write_X4_told
set_option maxRecDepth 20000 in
theorem ggX7_write_X4_isFit : GoodIn wsX7_write wsX4_isFit := goodIn_r _ [14, 15, 16, 10, 17, 18, 19, 20, 21, 22, 23, 24] (by decide +kernel) (by decide +kernel)
set_option maxRecDepth 20000 in
theorem gX7_write_X4_isFit : GoodIn wsX7_write (va_wsS RX7 58 yX4_isFit wsX4_isFit) := goodIn_app (goodIn_of _ (by decide +kernel)) ggX7_write_X4_isFit
set_option maxRecDepth 20000 in
theorem ggX7_write_X5_failureAt : GoodIn wsX7_write wsX5_failureAt := goodIn_r _ [29, 30, 31, 32, 33, 28, 34, 45, 46] (by decide +kernel) (by decide +kernel)
set_option maxRecDepth 20000 in
theorem gX7_write_X5_failureAt : GoodIn wsX7_write (wsV RX7 137 RX5 yX5_failureAt wsX5_failureAt) := goodIn_app (goodIn_of _ (by decide +kernel)) ggX7_write_X5_failureAt
set_option maxRecDepth 20000 in
theorem ggX7_write_X7_failWith : GoodIn wsX7_write wsX7_failWith := goodIn_r _ [38, 39, 40, 47, 48, 49, 50, 51, 52, 53, 54, 55, 56] (by decide +kernel) (by decide +kernel)
set_option maxRecDepth 20000 in
theorem gX7_write_X7_failWith : GoodIn wsX7_write (wsV RX7 84 RX7 yX7_failWith wsX7_failWith) := goodIn_app (goodIn_of _ (by decide +kernel)) ggX7_write_X7_failWith
set_option maxRecDepth 20000 in
theorem ggX7_write_X7_done : GoodIn wsX7_write wsX7_done := goodIn_r _ [44, 39, 47, 48, 49, 50, 51, 52, 53, 54, 55, 56] (by decide +kernel) (by decide +kernel)
set_option maxRecDepth 20000 in
theorem gX7_write_X7_done : GoodIn wsX7_write (wsV RX7 80 RX7 yX7_done wsX7_done) := goodIn_app (goodIn_of _ (by decide +kernel)) ggX7_write_X7_done
theorem dX7_write_0 : decode cX7_write 0 = .ok (.aload_n 0, 1) := by decide +kernel
theorem dX7_write_1 : decode cX7_write 1 = .ok (.iload_n 1, 1) := by decide +kernel
theorem dX7_write_2 : decode cX7_write 2 = .ok (.iload_n 2, 1) := by decide +kernel
theorem dX7_write_3 : decode cX7_write 3 = .ok (.invokevirtual 129, 3) := by decide +kernel
theorem dX7_write_6 : decode cX7_write 6 = .ok (.astore 6, 2) := by decide +kernel
theorem dX7_write_8 : decode cX7_write 8 = .ok (.aload 6, 2) := by decide +kernel
theorem dX7_write_10 : decode cX7_write 10 = .ok (.ifnonnull 6, 3) := by decide +kernel
theorem dX7_write_13 : decode cX7_write 13 = .ok (.bipush (-101), 2) := by decide +kernel
theorem dX7_write_15 : decode cX7_write 15 = .ok (.ireturn, 1) := by decide +kernel
theorem dX7_write_16 : decode cX7_write 16 = .ok (.iload_n 2, 1) := by decide +kernel
theorem dX7_write_17 : decode cX7_write 17 = .ok (.lload 4, 2) := by decide +kernel
theorem dX7_write_19 : decode cX7_write 19 = .ok (.invokestatic 52, 3) := by decide +kernel
theorem dX7_write_22 : decode cX7_write 22 = .ok (.lstore 7, 2) := by decide +kernel
theorem dX7_write_24 : decode cX7_write 24 = .ok (.iload_n 2, 1) := by decide +kernel
theorem dX7_write_25 : decode cX7_write 25 = .ok (.lload 7, 2) := by decide +kernel
theorem dX7_write_27 : decode cX7_write 27 = .ok (.invokestatic 58, 3) := by decide +kernel
theorem dX7_write_30 : decode cX7_write 30 = .ok (.ifCond .ne 6, 3) := by decide +kernel
theorem dX7_write_33 : decode cX7_write 33 = .ok (.bipush (-102), 2) := by decide +kernel
theorem dX7_write_35 : decode cX7_write 35 = .ok (.ireturn, 1) := by decide +kernel
theorem dX7_write_36 : decode cX7_write 36 = .ok (.aload 6, 2) := by decide +kernel
theorem dX7_write_38 : decode cX7_write 38 = .ok (.iload_n 3, 1) := by decide +kernel
theorem dX7_write_39 : decode cX7_write 39 = .ok (.invokevirtual 137, 3) := by decide +kernel
theorem dX7_write_42 : decode cX7_write 42 = .ok (.istore 9, 2) := by decide +kernel
theorem dX7_write_44 : decode cX7_write 44 = .ok (.iload 9, 2) := by decide +kernel
theorem dX7_write_46 : decode cX7_write 46 = .ok (.ifCond .eq 10, 3) := by decide +kernel
theorem dX7_write_49 : decode cX7_write 49 = .ok (.aload_n 0, 1) := by decide +kernel
theorem dX7_write_50 : decode cX7_write 50 = .ok (.iload 9, 2) := by decide +kernel
theorem dX7_write_52 : decode cX7_write 52 = .ok (.invokevirtual 84, 3) := by decide +kernel
theorem dX7_write_55 : decode cX7_write 55 = .ok (.ireturn, 1) := by decide +kernel
theorem dX7_write_56 : decode cX7_write 56 = .ok (.aload 6, 2) := by decide +kernel
theorem dX7_write_58 : decode cX7_write 58 = .ok (.getfield 140, 3) := by decide +kernel
theorem dX7_write_61 : decode cX7_write 61 = .ok (.iload_n 3, 1) := by decide +kernel
theorem dX7_write_62 : decode cX7_write 62 = .ok (.lload 7, 2) := by decide +kernel
theorem dX7_write_64 : decode cX7_write 64 = .ok (.lastore, 1) := by decide +kernel
theorem dX7_write_65 : decode cX7_write 65 = .ok (.aload_n 0, 1) := by decide +kernel
theorem dX7_write_66 : decode cX7_write 66 = .ok (.iconst 1, 1) := by decide +kernel
theorem dX7_write_67 : decode cX7_write 67 = .ok (.invokevirtual 80, 3) := by decide +kernel
theorem dX7_write_70 : decode cX7_write 70 = .ok (.ireturn, 1) := by decide +kernel
set_option maxRecDepth 20000 in
theorem ggX7_read_X7_rowAt : GoodIn wsX7_read wsX7_rowAt := goodIn_r _ [7, 8, 31, 32, 33, 34, 35, 36, 37, 38, 39, 40] (by decide +kernel) (by decide +kernel)
set_option maxRecDepth 20000 in
theorem gX7_read_X7_rowAt : GoodIn wsX7_read (wsV RX7 129 RX7 yX7_rowAt wsX7_rowAt) := goodIn_app (goodIn_of _ (by decide +kernel)) ggX7_read_X7_rowAt
set_option maxRecDepth 20000 in
theorem ggX7_read_X5_failureAt : GoodIn wsX7_read wsX5_failureAt := goodIn_r _ [13, 14, 15, 16, 17, 12, 18, 29, 30] (by decide +kernel) (by decide +kernel)
set_option maxRecDepth 20000 in
theorem gX7_read_X5_failureAt : GoodIn wsX7_read (wsV RX7 137 RX5 yX5_failureAt wsX5_failureAt) := goodIn_app (goodIn_of _ (by decide +kernel)) ggX7_read_X5_failureAt
set_option maxRecDepth 20000 in
theorem ggX7_read_X7_failWith : GoodIn wsX7_read wsX7_failWith := goodIn_r _ [22, 23, 24, 31, 32, 33, 34, 35, 36, 37, 38, 39, 40] (by decide +kernel) (by decide +kernel)
set_option maxRecDepth 20000 in
theorem gX7_read_X7_failWith : GoodIn wsX7_read (wsV RX7 84 RX7 yX7_failWith wsX7_failWith) := goodIn_app (goodIn_of _ (by decide +kernel)) ggX7_read_X7_failWith
set_option maxRecDepth 20000 in
theorem ggX7_read_X7_done : GoodIn wsX7_read wsX7_done := goodIn_r _ [28, 23, 31, 32, 33, 34, 35, 36, 37, 38, 39, 40] (by decide +kernel) (by decide +kernel)
set_option maxRecDepth 20000 in
theorem gX7_read_X7_done : GoodIn wsX7_read (wsV RX7 80 RX7 yX7_done wsX7_done) := goodIn_app (goodIn_of _ (by decide +kernel)) ggX7_read_X7_done
theorem dX7_read_0 : decode cX7_read 0 = .ok (.aload_n 0, 1) := by decide +kernel
theorem dX7_read_1 : decode cX7_read 1 = .ok (.iload_n 1, 1) := by decide +kernel
theorem dX7_read_2 : decode cX7_read 2 = .ok (.iload_n 2, 1) := by decide +kernel
theorem dX7_read_3 : decode cX7_read 3 = .ok (.invokevirtual 129, 3) := by decide +kernel
theorem dX7_read_6 : decode cX7_read 6 = .ok (.astore 4, 2) := by decide +kernel
theorem dX7_read_8 : decode cX7_read 8 = .ok (.aload 4, 2) := by decide +kernel
theorem dX7_read_10 : decode cX7_read 10 = .ok (.ifnonnull 6, 3) := by decide +kernel
theorem dX7_read_13 : decode cX7_read 13 = .ok (.bipush (-101), 2) := by decide +kernel
theorem dX7_read_15 : decode cX7_read 15 = .ok (.ireturn, 1) := by decide +kernel
theorem dX7_read_16 : decode cX7_read 16 = .ok (.aload 4, 2) := by decide +kernel
theorem dX7_read_18 : decode cX7_read 18 = .ok (.iload_n 3, 1) := by decide +kernel
theorem dX7_read_19 : decode cX7_read 19 = .ok (.invokevirtual 137, 3) := by decide +kernel
theorem dX7_read_22 : decode cX7_read 22 = .ok (.istore 5, 2) := by decide +kernel
theorem dX7_read_24 : decode cX7_read 24 = .ok (.iload 5, 2) := by decide +kernel
theorem dX7_read_26 : decode cX7_read 26 = .ok (.ifCond .eq 10, 3) := by decide +kernel
theorem dX7_read_29 : decode cX7_read 29 = .ok (.aload_n 0, 1) := by decide +kernel
theorem dX7_read_30 : decode cX7_read 30 = .ok (.iload 5, 2) := by decide +kernel
theorem dX7_read_32 : decode cX7_read 32 = .ok (.invokevirtual 84, 3) := by decide +kernel
theorem dX7_read_35 : decode cX7_read 35 = .ok (.ireturn, 1) := by decide +kernel
theorem dX7_read_36 : decode cX7_read 36 = .ok (.aload_n 0, 1) := by decide +kernel
theorem dX7_read_37 : decode cX7_read 37 = .ok (.aload 4, 2) := by decide +kernel
theorem dX7_read_39 : decode cX7_read 39 = .ok (.getfield 140, 3) := by decide +kernel
theorem dX7_read_42 : decode cX7_read 42 = .ok (.iload_n 3, 1) := by decide +kernel
theorem dX7_read_43 : decode cX7_read 43 = .ok (.laload, 1) := by decide +kernel
theorem dX7_read_44 : decode cX7_read 44 = .ok (.putfield 40, 3) := by decide +kernel
theorem dX7_read_47 : decode cX7_read 47 = .ok (.aload_n 0, 1) := by decide +kernel
theorem dX7_read_48 : decode cX7_read 48 = .ok (.iconst 1, 1) := by decide +kernel
theorem dX7_read_49 : decode cX7_read 49 = .ok (.invokevirtual 80, 3) := by decide +kernel
theorem dX7_read_52 : decode cX7_read 52 = .ok (.ireturn, 1) := by decide +kernel
theorem dX7_seen_0 : decode cX7_seen 0 = .ok (.aload_n 0, 1) := by decide +kernel
theorem dX7_seen_1 : decode cX7_seen 1 = .ok (.getfield 40, 3) := by decide +kernel
theorem dX7_seen_4 : decode cX7_seen 4 = .ok (.lreturn, 1) := by decide +kernel
set_option maxRecDepth 20000 in
theorem ggX7_note_X7_rowAt : GoodIn wsX7_note wsX7_rowAt := goodIn_r _ [8, 9, 98, 99, 100, 101, 102, 103, 104, 105, 106, 107] (by decide +kernel) (by decide +kernel)
set_option maxRecDepth 20000 in
theorem gX7_note_X7_rowAt : GoodIn wsX7_note (wsV RX7 129 RX7 yX7_rowAt wsX7_rowAt) := goodIn_app (goodIn_of _ (by decide +kernel)) ggX7_note_X7_rowAt
set_option maxRecDepth 20000 in
theorem ggX7_note_X7_dialAt : GoodIn wsX7_note wsX7_dialAt := goodIn_r _ [13, 14, 15, 98, 99, 100, 101, 102, 103, 104, 105, 106, 107] (by decide +kernel) (by decide +kernel)
set_option maxRecDepth 20000 in
theorem gX7_note_X7_dialAt : GoodIn wsX7_note (wsV RX7 68 RX7 yX7_dialAt wsX7_dialAt) := goodIn_app (goodIn_of _ (by decide +kernel)) ggX7_note_X7_dialAt
set_option maxRecDepth 20000 in
theorem ggX7_note_X5_failureAt : GoodIn wsX7_note wsX5_failureAt := goodIn_r _ [20, 21, 22, 23, 24, 19, 25, 92, 93] (by decide +kernel) (by decide +kernel)
set_option maxRecDepth 20000 in
theorem gX7_note_X5_failureAt : GoodIn wsX7_note (wsV RX7 137 RX5 yX5_failureAt wsX5_failureAt) := goodIn_app (goodIn_of _ (by decide +kernel)) ggX7_note_X5_failureAt
set_option maxRecDepth 20000 in
theorem ggX7_note_X7_failWith : GoodIn wsX7_note wsX7_failWith := goodIn_r _ [29, 30, 31, 98, 99, 100, 101, 102, 103, 104, 105, 106, 107] (by decide +kernel) (by decide +kernel)
set_option maxRecDepth 20000 in
theorem gX7_note_X7_failWith : GoodIn wsX7_note (wsV RX7 84 RX7 yX7_failWith wsX7_failWith) := goodIn_app (goodIn_of _ (by decide +kernel)) ggX7_note_X7_failWith
set_option maxRecDepth 20000 in
theorem ggX7_note_X4_ofReal : GoodIn wsX7_note wsX4_ofReal := goodIn_r _ [35, 36, 37, 34, 38, 39, 40, 41, 42, 43, 44, 45, 46, 47, 48, 49, 50, 51, 52, 53, 54, 55, 56, 57, 58, 59, 60, 61, 62, 63, 64, 65, 66, 67, 68, 69, 70, 71, 72, 73, 74, 75, 76, 77, 78, 79, 80, 81, 82, 83, 84, 85, 86, 87] (by decide +kernel) (by decide +kernel)
set_option maxRecDepth 20000 in
theorem gX7_note_X4_ofReal : GoodIn wsX7_note (va_wsS RX7 144 yX4_ofReal wsX4_ofReal) := goodIn_app (goodIn_of _ (by decide +kernel)) ggX7_note_X4_ofReal
set_option maxRecDepth 20000 in
theorem ggX7_note_X7_done : GoodIn wsX7_note wsX7_done := goodIn_r _ [91, 30, 98, 99, 100, 101, 102, 103, 104, 105, 106, 107] (by decide +kernel) (by decide +kernel)
set_option maxRecDepth 20000 in
theorem gX7_note_X7_done : GoodIn wsX7_note (wsV RX7 80 RX7 yX7_done wsX7_done) := goodIn_app (goodIn_of _ (by decide +kernel)) ggX7_note_X7_done
theorem dX7_note_0 : decode cX7_note 0 = .ok (.aload_n 0, 1) := by decide +kernel
theorem dX7_note_1 : decode cX7_note 1 = .ok (.iload_n 1, 1) := by decide +kernel
theorem dX7_note_2 : decode cX7_note 2 = .ok (.iload_n 2, 1) := by decide +kernel
theorem dX7_note_3 : decode cX7_note 3 = .ok (.invokevirtual 129, 3) := by decide +kernel
theorem dX7_note_6 : decode cX7_note 6 = .ok (.astore 5, 2) := by decide +kernel
theorem dX7_note_8 : decode cX7_note 8 = .ok (.aload_n 0, 1) := by decide +kernel
theorem dX7_note_9 : decode cX7_note 9 = .ok (.iload 4, 2) := by decide +kernel
theorem dX7_note_11 : decode cX7_note 11 = .ok (.invokevirtual 68, 3) := by decide +kernel
theorem dX7_note_14 : decode cX7_note 14 = .ok (.astore 6, 2) := by decide +kernel
theorem dX7_note_16 : decode cX7_note 16 = .ok (.aload 5, 2) := by decide +kernel
theorem dX7_note_18 : decode cX7_note 18 = .ok (.ifnull 8, 3) := by decide +kernel
theorem dX7_note_21 : decode cX7_note 21 = .ok (.aload 6, 2) := by decide +kernel
theorem dX7_note_23 : decode cX7_note 23 = .ok (.ifnonnull 6, 3) := by decide +kernel
theorem dX7_note_26 : decode cX7_note 26 = .ok (.bipush (-101), 2) := by decide +kernel
theorem dX7_note_28 : decode cX7_note 28 = .ok (.ireturn, 1) := by decide +kernel
theorem dX7_note_29 : decode cX7_note 29 = .ok (.aload 5, 2) := by decide +kernel
theorem dX7_note_31 : decode cX7_note 31 = .ok (.iload_n 3, 1) := by decide +kernel
theorem dX7_note_32 : decode cX7_note 32 = .ok (.invokevirtual 137, 3) := by decide +kernel
theorem dX7_note_35 : decode cX7_note 35 = .ok (.istore 7, 2) := by decide +kernel
theorem dX7_note_37 : decode cX7_note 37 = .ok (.iload 7, 2) := by decide +kernel
theorem dX7_note_39 : decode cX7_note 39 = .ok (.ifCond .eq 10, 3) := by decide +kernel
theorem dX7_note_42 : decode cX7_note 42 = .ok (.aload_n 0, 1) := by decide +kernel
theorem dX7_note_43 : decode cX7_note 43 = .ok (.iload 7, 2) := by decide +kernel
theorem dX7_note_45 : decode cX7_note 45 = .ok (.invokevirtual 84, 3) := by decide +kernel
theorem dX7_note_48 : decode cX7_note 48 = .ok (.ireturn, 1) := by decide +kernel
theorem dX7_note_49 : decode cX7_note 49 = .ok (.aload 5, 2) := by decide +kernel
theorem dX7_note_51 : decode cX7_note 51 = .ok (.getfield 140, 3) := by decide +kernel
theorem dX7_note_54 : decode cX7_note 54 = .ok (.iload_n 3, 1) := by decide +kernel
theorem dX7_note_55 : decode cX7_note 55 = .ok (.aload 6, 2) := by decide +kernel
theorem dX7_note_57 : decode cX7_note 57 = .ok (.getfield 72, 3) := by decide +kernel
theorem dX7_note_60 : decode cX7_note 60 = .ok (.iload_n 2, 1) := by decide +kernel
theorem dX7_note_61 : decode cX7_note 61 = .ok (.aload 6, 2) := by decide +kernel
theorem dX7_note_63 : decode cX7_note 63 = .ok (.getfield 87, 3) := by decide +kernel
theorem dX7_note_66 : decode cX7_note 66 = .ok (.invokestatic 144, 3) := by decide +kernel
theorem dX7_note_69 : decode cX7_note 69 = .ok (.lastore, 1) := by decide +kernel
theorem dX7_note_70 : decode cX7_note 70 = .ok (.aload_n 0, 1) := by decide +kernel
theorem dX7_note_71 : decode cX7_note 71 = .ok (.iconst 1, 1) := by decide +kernel
theorem dX7_note_72 : decode cX7_note 72 = .ok (.invokevirtual 80, 3) := by decide +kernel
theorem dX7_note_75 : decode cX7_note 75 = .ok (.ireturn, 1) := by decide +kernel
set_option maxRecDepth 20000 in
theorem ggX7_recall_X7_rowAt : GoodIn wsX7_recall wsX7_rowAt := goodIn_r _ [9, 10, 106, 107, 108, 109, 110, 111, 112, 113, 114, 115] (by decide +kernel) (by decide +kernel)
set_option maxRecDepth 20000 in
theorem gX7_recall_X7_rowAt : GoodIn wsX7_recall (wsV RX7 129 RX7 yX7_rowAt wsX7_rowAt) := goodIn_app (goodIn_of _ (by decide +kernel)) ggX7_recall_X7_rowAt
set_option maxRecDepth 20000 in
theorem ggX7_recall_X7_dialAt : GoodIn wsX7_recall wsX7_dialAt := goodIn_r _ [14, 15, 16, 106, 107, 108, 109, 110, 111, 112, 113, 114, 115] (by decide +kernel) (by decide +kernel)
set_option maxRecDepth 20000 in
theorem gX7_recall_X7_dialAt : GoodIn wsX7_recall (wsV RX7 68 RX7 yX7_dialAt wsX7_dialAt) := goodIn_app (goodIn_of _ (by decide +kernel)) ggX7_recall_X7_dialAt
set_option maxRecDepth 20000 in
theorem ggX7_recall_X5_failureAt : GoodIn wsX7_recall wsX5_failureAt := goodIn_r _ [21, 22, 23, 24, 25, 20, 26, 104, 105] (by decide +kernel) (by decide +kernel)
set_option maxRecDepth 20000 in
theorem gX7_recall_X5_failureAt : GoodIn wsX7_recall (wsV RX7 137 RX5 yX5_failureAt wsX5_failureAt) := goodIn_app (goodIn_of _ (by decide +kernel)) ggX7_recall_X5_failureAt
set_option maxRecDepth 20000 in
theorem ggX7_recall_X7_failWith : GoodIn wsX7_recall wsX7_failWith := goodIn_r _ [30, 31, 32, 106, 107, 108, 109, 110, 111, 112, 113, 114, 115] (by decide +kernel) (by decide +kernel)
set_option maxRecDepth 20000 in
theorem gX7_recall_X7_failWith : GoodIn wsX7_recall (wsV RX7 84 RX7 yX7_failWith wsX7_failWith) := goodIn_app (goodIn_of _ (by decide +kernel)) ggX7_recall_X7_failWith
set_option maxRecDepth 20000 in
theorem ggX7_recall_X4_ofReal : GoodIn wsX7_recall wsX4_ofReal := goodIn_r _ [36, 37, 38, 35, 39, 40, 41, 42, 43, 44, 45, 46, 47, 48, 49, 50, 51, 52, 53, 54, 55, 56, 57, 58, 59, 60, 61, 62, 63, 64, 65, 66, 67, 68, 69, 70, 71, 72, 73, 74, 75, 76, 77, 78, 79, 80, 81, 82, 83, 84, 85, 86, 87, 88] (by decide +kernel) (by decide +kernel)
set_option maxRecDepth 20000 in
theorem gX7_recall_X4_ofReal : GoodIn wsX7_recall (va_wsS RX7 144 yX4_ofReal wsX4_ofReal) := goodIn_app (goodIn_of _ (by decide +kernel)) ggX7_recall_X4_ofReal
set_option maxRecDepth 20000 in
theorem ggX7_recall_X4_isFit : GoodIn wsX7_recall wsX4_isFit := goodIn_r _ [39, 40, 41, 35, 42, 43, 44, 45, 46, 47, 48, 49] (by decide +kernel) (by decide +kernel)
set_option maxRecDepth 20000 in
theorem gX7_recall_X4_isFit : GoodIn wsX7_recall (va_wsS RX7 58 yX4_isFit wsX4_isFit) := goodIn_app (goodIn_of _ (by decide +kernel)) ggX7_recall_X4_isFit
set_option maxRecDepth 20000 in
theorem ggX7_recall_X4_leftOver : GoodIn wsX7_recall wsX4_leftOver := goodIn_r _ [92, 64, 65, 66, 67, 93, 94, 95, 55, 56, 35, 57, 58, 59, 60, 40, 41, 42, 43, 44, 77, 78, 79, 80, 81, 82, 83, 84, 85, 61, 62, 63, 68, 69, 70, 71, 72, 73, 50, 51, 52, 53, 54, 74, 75, 76, 45, 46, 47, 48, 49, 86, 87, 88] (by decide +kernel) (by decide +kernel)
set_option maxRecDepth 20000 in
theorem gX7_recall_X4_leftOver : GoodIn wsX7_recall (va_wsS RX7 148 yX4_leftOver wsX4_leftOver) := goodIn_app (goodIn_of _ (by decide +kernel)) ggX7_recall_X4_leftOver
set_option maxRecDepth 20000 in
theorem ggX7_recall_X7_done : GoodIn wsX7_recall wsX7_done := goodIn_r _ [99, 31, 106, 107, 108, 109, 110, 111, 112, 113, 114, 115] (by decide +kernel) (by decide +kernel)
set_option maxRecDepth 20000 in
theorem gX7_recall_X7_done : GoodIn wsX7_recall (wsV RX7 80 RX7 yX7_done wsX7_done) := goodIn_app (goodIn_of _ (by decide +kernel)) ggX7_recall_X7_done
theorem dX7_recall_0 : decode cX7_recall 0 = .ok (.aload_n 0, 1) := by decide +kernel
theorem dX7_recall_1 : decode cX7_recall 1 = .ok (.iload_n 1, 1) := by decide +kernel
theorem dX7_recall_2 : decode cX7_recall 2 = .ok (.iload_n 2, 1) := by decide +kernel
theorem dX7_recall_3 : decode cX7_recall 3 = .ok (.invokevirtual 129, 3) := by decide +kernel
theorem dX7_recall_6 : decode cX7_recall 6 = .ok (.astore 5, 2) := by decide +kernel
theorem dX7_recall_8 : decode cX7_recall 8 = .ok (.aload_n 0, 1) := by decide +kernel
theorem dX7_recall_9 : decode cX7_recall 9 = .ok (.iload 4, 2) := by decide +kernel
theorem dX7_recall_11 : decode cX7_recall 11 = .ok (.invokevirtual 68, 3) := by decide +kernel
theorem dX7_recall_14 : decode cX7_recall 14 = .ok (.astore 6, 2) := by decide +kernel
theorem dX7_recall_16 : decode cX7_recall 16 = .ok (.aload 5, 2) := by decide +kernel
theorem dX7_recall_18 : decode cX7_recall 18 = .ok (.ifnull 8, 3) := by decide +kernel
theorem dX7_recall_21 : decode cX7_recall 21 = .ok (.aload 6, 2) := by decide +kernel
theorem dX7_recall_23 : decode cX7_recall 23 = .ok (.ifnonnull 6, 3) := by decide +kernel
theorem dX7_recall_26 : decode cX7_recall 26 = .ok (.bipush (-101), 2) := by decide +kernel
theorem dX7_recall_28 : decode cX7_recall 28 = .ok (.ireturn, 1) := by decide +kernel
theorem dX7_recall_29 : decode cX7_recall 29 = .ok (.aload 5, 2) := by decide +kernel
theorem dX7_recall_31 : decode cX7_recall 31 = .ok (.iload_n 3, 1) := by decide +kernel
theorem dX7_recall_32 : decode cX7_recall 32 = .ok (.invokevirtual 137, 3) := by decide +kernel
theorem dX7_recall_35 : decode cX7_recall 35 = .ok (.istore 7, 2) := by decide +kernel
theorem dX7_recall_37 : decode cX7_recall 37 = .ok (.iload 7, 2) := by decide +kernel
theorem dX7_recall_39 : decode cX7_recall 39 = .ok (.ifCond .eq 10, 3) := by decide +kernel
theorem dX7_recall_42 : decode cX7_recall 42 = .ok (.aload_n 0, 1) := by decide +kernel
theorem dX7_recall_43 : decode cX7_recall 43 = .ok (.iload 7, 2) := by decide +kernel
theorem dX7_recall_45 : decode cX7_recall 45 = .ok (.invokevirtual 84, 3) := by decide +kernel
theorem dX7_recall_48 : decode cX7_recall 48 = .ok (.ireturn, 1) := by decide +kernel
theorem dX7_recall_49 : decode cX7_recall 49 = .ok (.iload_n 2, 1) := by decide +kernel
theorem dX7_recall_50 : decode cX7_recall 50 = .ok (.aload 6, 2) := by decide +kernel
theorem dX7_recall_52 : decode cX7_recall 52 = .ok (.getfield 72, 3) := by decide +kernel
theorem dX7_recall_55 : decode cX7_recall 55 = .ok (.aload 5, 2) := by decide +kernel
theorem dX7_recall_57 : decode cX7_recall 57 = .ok (.getfield 140, 3) := by decide +kernel
theorem dX7_recall_60 : decode cX7_recall 60 = .ok (.iload_n 3, 1) := by decide +kernel
theorem dX7_recall_61 : decode cX7_recall 61 = .ok (.laload, 1) := by decide +kernel
theorem dX7_recall_62 : decode cX7_recall 62 = .ok (.invokestatic 144, 3) := by decide +kernel
theorem dX7_recall_65 : decode cX7_recall 65 = .ok (.lstore 8, 2) := by decide +kernel
theorem dX7_recall_67 : decode cX7_recall 67 = .ok (.aload 6, 2) := by decide +kernel
theorem dX7_recall_69 : decode cX7_recall 69 = .ok (.getfield 72, 3) := by decide +kernel
theorem dX7_recall_72 : decode cX7_recall 72 = .ok (.lload 8, 2) := by decide +kernel
theorem dX7_recall_74 : decode cX7_recall 74 = .ok (.invokestatic 58, 3) := by decide +kernel
theorem dX7_recall_77 : decode cX7_recall 77 = .ok (.ifCond .ne 10, 3) := by decide +kernel
theorem dX7_recall_80 : decode cX7_recall 80 = .ok (.aload_n 0, 1) := by decide +kernel
theorem dX7_recall_81 : decode cX7_recall 81 = .ok (.bipush (-15), 2) := by decide +kernel
theorem dX7_recall_83 : decode cX7_recall 83 = .ok (.invokevirtual 84, 3) := by decide +kernel
theorem dX7_recall_86 : decode cX7_recall 86 = .ok (.ireturn, 1) := by decide +kernel
theorem dX7_recall_87 : decode cX7_recall 87 = .ok (.aload 6, 2) := by decide +kernel
theorem dX7_recall_89 : decode cX7_recall 89 = .ok (.aload 6, 2) := by decide +kernel
theorem dX7_recall_91 : decode cX7_recall 91 = .ok (.getfield 72, 3) := by decide +kernel
theorem dX7_recall_94 : decode cX7_recall 94 = .ok (.lload 8, 2) := by decide +kernel
theorem dX7_recall_96 : decode cX7_recall 96 = .ok (.aload 6, 2) := by decide +kernel
theorem dX7_recall_98 : decode cX7_recall 98 = .ok (.getfield 90, 3) := by decide +kernel
theorem dX7_recall_101 : decode cX7_recall 101 = .ok (.invokestatic 148, 3) := by decide +kernel
theorem dX7_recall_104 : decode cX7_recall 104 = .ok (.putfield 87, 3) := by decide +kernel
theorem dX7_recall_107 : decode cX7_recall 107 = .ok (.aload_n 0, 1) := by decide +kernel
theorem dX7_recall_108 : decode cX7_recall 108 = .ok (.iconst 1, 1) := by decide +kernel
theorem dX7_recall_109 : decode cX7_recall 109 = .ok (.invokevirtual 80, 3) := by decide +kernel
theorem dX7_recall_112 : decode cX7_recall 112 = .ok (.ireturn, 1) := by decide +kernel
set_option maxRecDepth 20000 in
theorem ggX7_sift_X7_rowAt : GoodIn wsX7_sift wsX7_rowAt := goodIn_r _ [8, 9, 93, 94, 95, 96, 97, 98, 99, 100, 101, 102] (by decide +kernel) (by decide +kernel)
set_option maxRecDepth 20000 in
theorem gX7_sift_X7_rowAt : GoodIn wsX7_sift (wsV RX7 129 RX7 yX7_rowAt wsX7_rowAt) := goodIn_app (goodIn_of _ (by decide +kernel)) ggX7_sift_X7_rowAt
set_option maxRecDepth 20000 in
theorem ggX7_sift_X4_told : GoodIn wsX7_sift wsX4_told := goodIn_r _ [13] (by decide +kernel) (by decide +kernel)
set_option maxRecDepth 20000 in
theorem gX7_sift_X4_told : GoodIn wsX7_sift (va_wsS RX7 52 yX4_told wsX4_told) := goodIn_app (goodIn_of _ (by decide +kernel)) ggX7_sift_X4_told
set_option maxRecDepth 20000 in
theorem ggX7_sift_X4_isFit : GoodIn wsX7_sift wsX4_isFit := goodIn_r _ [16, 17, 18, 12, 19, 20, 21, 22, 23, 24, 25, 26] (by decide +kernel) (by decide +kernel)
set_option maxRecDepth 20000 in
theorem gX7_sift_X4_isFit : GoodIn wsX7_sift (va_wsS RX7 58 yX4_isFit wsX4_isFit) := goodIn_app (goodIn_of _ (by decide +kernel)) ggX7_sift_X4_isFit
set_option maxRecDepth 20000 in
theorem ggX7_sift_X5_isMissing : GoodIn wsX7_sift wsX5_isMissing := goodIn_r _ [31, 32, 91, 92] (by decide +kernel) (by decide +kernel)
set_option maxRecDepth 20000 in
theorem gX7_sift_X5_isMissing : GoodIn wsX7_sift (wsV RX7 152 RX5 yX5_isMissing wsX5_isMissing) := goodIn_app (goodIn_of _ (by decide +kernel)) ggX7_sift_X5_isMissing
set_option maxRecDepth 20000 in
theorem ggX7_sift_X7_failWith : GoodIn wsX7_sift wsX7_failWith := goodIn_r _ [36, 37, 38, 93, 94, 95, 96, 97, 98, 99, 100, 101, 102] (by decide +kernel) (by decide +kernel)
set_option maxRecDepth 20000 in
theorem gX7_sift_X7_failWith : GoodIn wsX7_sift (wsV RX7 84 RX7 yX7_failWith wsX7_failWith) := goodIn_app (goodIn_of _ (by decide +kernel)) ggX7_sift_X7_failWith
set_option maxRecDepth 20000 in
theorem ggX7_sift_X4_isZero : GoodIn wsX7_sift wsX4_isZero := goodIn_r _ [41, 17, 18, 12, 19, 20, 21] (by decide +kernel) (by decide +kernel)
set_option maxRecDepth 20000 in
theorem gX7_sift_X4_isZero : GoodIn wsX7_sift (va_wsS RX7 62 yX4_isZero wsX4_isZero) := goodIn_app (goodIn_of _ (by decide +kernel)) ggX7_sift_X4_isZero
set_option maxRecDepth 20000 in
theorem ggX7_sift_X4_leftOver : GoodIn wsX7_sift wsX4_leftOver := goodIn_r _ [44, 45, 46, 47, 48, 49, 50, 51, 52, 53, 12, 54, 55, 56, 57, 17, 18, 19, 20, 21, 58, 59, 60, 61, 62, 63, 64, 65, 66, 67, 68, 69, 70, 71, 72, 73, 74, 75, 76, 77, 78, 79, 80, 81, 82, 83, 22, 23, 24, 25, 26, 84, 85, 86] (by decide +kernel) (by decide +kernel)
set_option maxRecDepth 20000 in
theorem gX7_sift_X4_leftOver : GoodIn wsX7_sift (va_wsS RX7 148 yX4_leftOver wsX4_leftOver) := goodIn_app (goodIn_of _ (by decide +kernel)) ggX7_sift_X4_leftOver
set_option maxRecDepth 20000 in
theorem ggX7_sift_X7_done : GoodIn wsX7_sift wsX7_done := goodIn_r _ [90, 37, 93, 94, 95, 96, 97, 98, 99, 100, 101, 102] (by decide +kernel) (by decide +kernel)
set_option maxRecDepth 20000 in
theorem gX7_sift_X7_done : GoodIn wsX7_sift (wsV RX7 80 RX7 yX7_done wsX7_done) := goodIn_app (goodIn_of _ (by decide +kernel)) ggX7_sift_X7_done
theorem dX7_sift_0 : decode cX7_sift 0 = .ok (.aload_n 0, 1) := by decide +kernel
theorem dX7_sift_1 : decode cX7_sift 1 = .ok (.iload_n 1, 1) := by decide +kernel
theorem dX7_sift_2 : decode cX7_sift 2 = .ok (.iload_n 2, 1) := by decide +kernel
theorem dX7_sift_3 : decode cX7_sift 3 = .ok (.invokevirtual 129, 3) := by decide +kernel
theorem dX7_sift_6 : decode cX7_sift 6 = .ok (.astore 5, 2) := by decide +kernel
theorem dX7_sift_8 : decode cX7_sift 8 = .ok (.aload 5, 2) := by decide +kernel
theorem dX7_sift_10 : decode cX7_sift 10 = .ok (.ifnonnull 6, 3) := by decide +kernel
theorem dX7_sift_13 : decode cX7_sift 13 = .ok (.bipush (-101), 2) := by decide +kernel
theorem dX7_sift_15 : decode cX7_sift 15 = .ok (.ireturn, 1) := by decide +kernel
theorem dX7_sift_16 : decode cX7_sift 16 = .ok (.iload_n 2, 1) := by decide +kernel
theorem dX7_sift_17 : decode cX7_sift 17 = .ok (.lload_n 3, 1) := by decide +kernel
theorem dX7_sift_18 : decode cX7_sift 18 = .ok (.invokestatic 52, 3) := by decide +kernel
theorem dX7_sift_21 : decode cX7_sift 21 = .ok (.lstore 6, 2) := by decide +kernel
theorem dX7_sift_23 : decode cX7_sift 23 = .ok (.iload_n 2, 1) := by decide +kernel
theorem dX7_sift_24 : decode cX7_sift 24 = .ok (.lload 6, 2) := by decide +kernel
theorem dX7_sift_26 : decode cX7_sift 26 = .ok (.invokestatic 58, 3) := by decide +kernel
theorem dX7_sift_29 : decode cX7_sift 29 = .ok (.ifCond .ne 6, 3) := by decide +kernel
theorem dX7_sift_32 : decode cX7_sift 32 = .ok (.bipush (-102), 2) := by decide +kernel
theorem dX7_sift_34 : decode cX7_sift 34 = .ok (.ireturn, 1) := by decide +kernel
theorem dX7_sift_35 : decode cX7_sift 35 = .ok (.aload 5, 2) := by decide +kernel
theorem dX7_sift_37 : decode cX7_sift 37 = .ok (.invokevirtual 152, 3) := by decide +kernel
theorem dX7_sift_40 : decode cX7_sift 40 = .ok (.ifCond .eq 10, 3) := by decide +kernel
theorem dX7_sift_43 : decode cX7_sift 43 = .ok (.aload_n 0, 1) := by decide +kernel
theorem dX7_sift_44 : decode cX7_sift 44 = .ok (.bipush (-11), 2) := by decide +kernel
theorem dX7_sift_46 : decode cX7_sift 46 = .ok (.invokevirtual 84, 3) := by decide +kernel
theorem dX7_sift_49 : decode cX7_sift 49 = .ok (.ireturn, 1) := by decide +kernel
theorem dX7_sift_50 : decode cX7_sift 50 = .ok (.iconst 0, 1) := by decide +kernel
theorem dX7_sift_51 : decode cX7_sift 51 = .ok (.istore 8, 2) := by decide +kernel
theorem dX7_sift_53 : decode cX7_sift 53 = .ok (.iconst 0, 1) := by decide +kernel
theorem dX7_sift_54 : decode cX7_sift 54 = .ok (.istore 9, 2) := by decide +kernel
theorem dX7_sift_56 : decode cX7_sift 56 = .ok (.iload 9, 2) := by decide +kernel
theorem dX7_sift_58 : decode cX7_sift 58 = .ok (.aload 5, 2) := by decide +kernel
theorem dX7_sift_60 : decode cX7_sift 60 = .ok (.getfield 156, 3) := by decide +kernel
theorem dX7_sift_63 : decode cX7_sift 63 = .ok (.if_icmp .ge 43, 3) := by decide +kernel
theorem dX7_sift_66 : decode cX7_sift 66 = .ok (.iload_n 2, 1) := by decide +kernel
theorem dX7_sift_67 : decode cX7_sift 67 = .ok (.aload 5, 2) := by decide +kernel
theorem dX7_sift_69 : decode cX7_sift 69 = .ok (.getfield 140, 3) := by decide +kernel
theorem dX7_sift_72 : decode cX7_sift 72 = .ok (.iload 9, 2) := by decide +kernel
theorem dX7_sift_74 : decode cX7_sift 74 = .ok (.laload, 1) := by decide +kernel
theorem dX7_sift_75 : decode cX7_sift 75 = .ok (.invokestatic 62, 3) := by decide +kernel
theorem dX7_sift_78 : decode cX7_sift 78 = .ok (.ifCond .ne 22, 3) := by decide +kernel
theorem dX7_sift_81 : decode cX7_sift 81 = .ok (.iload_n 2, 1) := by decide +kernel
theorem dX7_sift_82 : decode cX7_sift 82 = .ok (.lload 6, 2) := by decide +kernel
theorem dX7_sift_84 : decode cX7_sift 84 = .ok (.aload 5, 2) := by decide +kernel
theorem dX7_sift_86 : decode cX7_sift 86 = .ok (.getfield 140, 3) := by decide +kernel
theorem dX7_sift_89 : decode cX7_sift 89 = .ok (.iload 9, 2) := by decide +kernel
theorem dX7_sift_91 : decode cX7_sift 91 = .ok (.laload, 1) := by decide +kernel
theorem dX7_sift_92 : decode cX7_sift 92 = .ok (.invokestatic 148, 3) := by decide +kernel
theorem dX7_sift_95 : decode cX7_sift 95 = .ok (.lstore 6, 2) := by decide +kernel
theorem dX7_sift_97 : decode cX7_sift 97 = .ok (.iinc 8 1, 3) := by decide +kernel
theorem dX7_sift_100 : decode cX7_sift 100 = .ok (.iinc 9 1, 3) := by decide +kernel
theorem dX7_sift_103 : decode cX7_sift 103 = .ok (.goto (-47), 3) := by decide +kernel
theorem dX7_sift_106 : decode cX7_sift 106 = .ok (.aload_n 0, 1) := by decide +kernel
theorem dX7_sift_107 : decode cX7_sift 107 = .ok (.lload 6, 2) := by decide +kernel
theorem dX7_sift_109 : decode cX7_sift 109 = .ok (.putfield 40, 3) := by decide +kernel
theorem dX7_sift_112 : decode cX7_sift 112 = .ok (.aload_n 0, 1) := by decide +kernel
theorem dX7_sift_113 : decode cX7_sift 113 = .ok (.iload 8, 2) := by decide +kernel
theorem dX7_sift_115 : decode cX7_sift 115 = .ok (.invokevirtual 80, 3) := by decide +kernel
theorem dX7_sift_118 : decode cX7_sift 118 = .ok (.ireturn, 1) := by decide +kernel
set_option maxRecDepth 20000 in
theorem ggX7_cast_X7_isKind : GoodIn wsX7_cast wsX7_isKind := goodIn_r _ [5] (by decide +kernel) (by decide +kernel)
set_option maxRecDepth 20000 in
theorem gX7_cast_X7_isKind : GoodIn wsX7_cast (va_wsS RX7 159 yX7_isKind wsX7_isKind) := goodIn_app (goodIn_of _ (by decide +kernel)) ggX7_cast_X7_isKind
set_option maxRecDepth 20000 in
theorem ggX7_cast_X7_isReal : GoodIn wsX7_cast wsX7_isReal := goodIn_r _ [8] (by decide +kernel) (by decide +kernel)
set_option maxRecDepth 20000 in
theorem gX7_cast_X7_isReal : GoodIn wsX7_cast (va_wsS RX7 162 yX7_isReal wsX7_isReal) := goodIn_app (goodIn_of _ (by decide +kernel)) ggX7_cast_X7_isReal
set_option maxRecDepth 20000 in
theorem ggX7_cast_X4_isNumber : GoodIn wsX7_cast wsX4_isNumber := goodIn_r _ [12, 13, 14, 11, 15, 16, 17, 18, 19, 20, 21, 22] (by decide +kernel) (by decide +kernel)
set_option maxRecDepth 20000 in
theorem gX7_cast_X4_isNumber : GoodIn wsX7_cast (va_wsS RX7 165 yX4_isNumber wsX4_isNumber) := goodIn_app (goodIn_of _ (by decide +kernel)) ggX7_cast_X4_isNumber
set_option maxRecDepth 20000 in
theorem ggX7_cast_X7_castReal : GoodIn wsX7_cast wsX7_castReal := goodIn_r _ [25, 26, 27, 28, 29, 30, 31, 32, 33, 34, 6, 7, 4, 8, 35, 36, 11, 37, 38, 39, 40, 13, 14, 15, 16, 17, 18, 19, 20, 21, 22, 41, 42, 43, 44, 45, 46, 47, 48, 49, 50, 51, 52, 53, 54, 55, 56, 57, 58, 59, 60, 61, 62, 63, 64, 65, 66, 67, 68, 69, 70, 71, 72, 73, 74, 75, 76, 77, 78, 79, 80, 81] (by decide +kernel) (by decide +kernel)
set_option maxRecDepth 20000 in
theorem gX7_cast_X7_castReal : GoodIn wsX7_cast (va_wsS RX7 168 yX7_castReal wsX7_castReal) := goodIn_app (goodIn_of _ (by decide +kernel)) ggX7_cast_X7_castReal
set_option maxRecDepth 20000 in
theorem ggX7_cast_X7_castWhole : GoodIn wsX7_cast wsX7_castWhole := goodIn_r _ [84, 6, 7, 4, 8, 85, 86, 11, 87, 88, 89, 30, 90, 61, 62, 63, 55, 56, 57, 41, 42, 43, 44, 45, 58, 59, 60, 64, 65, 66, 67, 68, 69, 70, 71, 72, 73, 74, 75, 49, 50, 51, 18, 19, 20, 21, 22, 76, 77, 78] (by decide +kernel) (by decide +kernel)
set_option maxRecDepth 20000 in
theorem gX7_cast_X7_castWhole : GoodIn wsX7_cast (va_wsS RX7 172 yX7_castWhole wsX7_castWhole) := goodIn_app (goodIn_of _ (by decide +kernel)) ggX7_cast_X7_castWhole
theorem dX7_cast_0 : decode cX7_cast 0 = .ok (.iload_n 1, 1) := by decide +kernel
theorem dX7_cast_1 : decode cX7_cast 1 = .ok (.invokestatic 159, 3) := by decide +kernel
theorem dX7_cast_4 : decode cX7_cast 4 = .ok (.ifCond .eq 10, 3) := by decide +kernel
theorem dX7_cast_7 : decode cX7_cast 7 = .ok (.iload_n 2, 1) := by decide +kernel
theorem dX7_cast_8 : decode cX7_cast 8 = .ok (.invokestatic 159, 3) := by decide +kernel
theorem dX7_cast_11 : decode cX7_cast 11 = .ok (.ifCond .ne 6, 3) := by decide +kernel
theorem dX7_cast_14 : decode cX7_cast 14 = .ok (.bipush (-102), 2) := by decide +kernel
theorem dX7_cast_16 : decode cX7_cast 16 = .ok (.ireturn, 1) := by decide +kernel
theorem dX7_cast_17 : decode cX7_cast 17 = .ok (.iload_n 1, 1) := by decide +kernel
theorem dX7_cast_18 : decode cX7_cast 18 = .ok (.ifCond .eq 8, 3) := by decide +kernel
theorem dX7_cast_21 : decode cX7_cast 21 = .ok (.iload_n 1, 1) := by decide +kernel
theorem dX7_cast_22 : decode cX7_cast 22 = .ok (.iconst 2, 1) := by decide +kernel
theorem dX7_cast_23 : decode cX7_cast 23 = .ok (.if_icmp .ne 9, 3) := by decide +kernel
theorem dX7_cast_26 : decode cX7_cast 26 = .ok (.lload_n 3, 1) := by decide +kernel
theorem dX7_cast_27 : decode cX7_cast 27 = .ok (.l2i, 1) := by decide +kernel
theorem dX7_cast_28 : decode cX7_cast 28 = .ok (.i2l, 1) := by decide +kernel
theorem dX7_cast_29 : decode cX7_cast 29 = .ok (.goto 4, 3) := by decide +kernel
theorem dX7_cast_32 : decode cX7_cast 32 = .ok (.lload_n 3, 1) := by decide +kernel
theorem dX7_cast_33 : decode cX7_cast 33 = .ok (.lstore 5, 2) := by decide +kernel
theorem dX7_cast_35 : decode cX7_cast 35 = .ok (.iload_n 1, 1) := by decide +kernel
theorem dX7_cast_36 : decode cX7_cast 36 = .ok (.invokestatic 162, 3) := by decide +kernel
theorem dX7_cast_39 : decode cX7_cast 39 = .ok (.ifCond .eq 24, 3) := by decide +kernel
theorem dX7_cast_42 : decode cX7_cast 42 = .ok (.iload_n 1, 1) := by decide +kernel
theorem dX7_cast_43 : decode cX7_cast 43 = .ok (.iconst 3, 1) := by decide +kernel
theorem dX7_cast_44 : decode cX7_cast 44 = .ok (.if_icmp .ne 7, 3) := by decide +kernel
theorem dX7_cast_47 : decode cX7_cast 47 = .ok (.iconst 1, 1) := by decide +kernel
theorem dX7_cast_48 : decode cX7_cast 48 = .ok (.goto 4, 3) := by decide +kernel
theorem dX7_cast_51 : decode cX7_cast 51 = .ok (.iconst 0, 1) := by decide +kernel
theorem dX7_cast_52 : decode cX7_cast 52 = .ok (.lload 5, 2) := by decide +kernel
theorem dX7_cast_54 : decode cX7_cast 54 = .ok (.invokestatic 165, 3) := by decide +kernel
theorem dX7_cast_57 : decode cX7_cast 57 = .ok (.ifCond .ne 6, 3) := by decide +kernel
theorem dX7_cast_60 : decode cX7_cast 60 = .ok (.bipush (-102), 2) := by decide +kernel
theorem dX7_cast_62 : decode cX7_cast 62 = .ok (.ireturn, 1) := by decide +kernel
theorem dX7_cast_63 : decode cX7_cast 63 = .ok (.aload_n 0, 1) := by decide +kernel
theorem dX7_cast_64 : decode cX7_cast 64 = .ok (.iload_n 1, 1) := by decide +kernel
theorem dX7_cast_65 : decode cX7_cast 65 = .ok (.invokestatic 162, 3) := by decide +kernel
theorem dX7_cast_68 : decode cX7_cast 68 = .ok (.ifCond .eq 13, 3) := by decide +kernel
theorem dX7_cast_71 : decode cX7_cast 71 = .ok (.iload_n 1, 1) := by decide +kernel
theorem dX7_cast_72 : decode cX7_cast 72 = .ok (.iload_n 2, 1) := by decide +kernel
theorem dX7_cast_73 : decode cX7_cast 73 = .ok (.lload 5, 2) := by decide +kernel
theorem dX7_cast_75 : decode cX7_cast 75 = .ok (.invokestatic 168, 3) := by decide +kernel
theorem dX7_cast_78 : decode cX7_cast 78 = .ok (.goto 9, 3) := by decide +kernel
theorem dX7_cast_81 : decode cX7_cast 81 = .ok (.iload_n 2, 1) := by decide +kernel
theorem dX7_cast_82 : decode cX7_cast 82 = .ok (.lload 5, 2) := by decide +kernel
theorem dX7_cast_84 : decode cX7_cast 84 = .ok (.invokestatic 172, 3) := by decide +kernel
theorem dX7_cast_87 : decode cX7_cast 87 = .ok (.putfield 40, 3) := by decide +kernel
theorem dX7_cast_90 : decode cX7_cast 90 = .ok (.iconst 1, 1) := by decide +kernel
theorem dX7_cast_91 : decode cX7_cast 91 = .ok (.ireturn, 1) := by decide +kernel
set_option maxRecDepth 20000 in
theorem ggX7_left_X4_told : GoodIn wsX7_left wsX4_told := goodIn_r _ [5] (by decide +kernel) (by decide +kernel)
set_option maxRecDepth 20000 in
theorem gX7_left_X4_told : GoodIn wsX7_left (va_wsS RX7 52 yX4_told wsX4_told) := goodIn_app (goodIn_of _ (by decide +kernel)) ggX7_left_X4_told
set_option maxRecDepth 20000 in
theorem ggX7_left_X4_isFit : GoodIn wsX7_left wsX4_isFit := goodIn_r _ [8, 9, 10, 4, 11, 12, 13, 14, 15, 16, 17, 18] (by decide +kernel) (by decide +kernel)
set_option maxRecDepth 20000 in
theorem gX7_left_X4_isFit : GoodIn wsX7_left (va_wsS RX7 58 yX4_isFit wsX4_isFit) := goodIn_app (goodIn_of _ (by decide +kernel)) ggX7_left_X4_isFit
set_option maxRecDepth 20000 in
theorem ggX7_left_X4_isZero : GoodIn wsX7_left wsX4_isZero := goodIn_r _ [21, 9, 10, 4, 11, 12, 13] (by decide +kernel) (by decide +kernel)
set_option maxRecDepth 20000 in
theorem gX7_left_X4_isZero : GoodIn wsX7_left (va_wsS RX7 62 yX4_isZero wsX4_isZero) := goodIn_app (goodIn_of _ (by decide +kernel)) ggX7_left_X4_isZero
set_option maxRecDepth 20000 in
theorem ggX7_left_X4_isNumber : GoodIn wsX7_left wsX4_isNumber := goodIn_r _ [24, 9, 10, 4, 11, 12, 13, 14, 15, 16, 17, 18] (by decide +kernel) (by decide +kernel)
set_option maxRecDepth 20000 in
theorem gX7_left_X4_isNumber : GoodIn wsX7_left (va_wsS RX7 165 yX4_isNumber wsX4_isNumber) := goodIn_app (goodIn_of _ (by decide +kernel)) ggX7_left_X4_isNumber
set_option maxRecDepth 20000 in
theorem ggX7_left_X4_leftOver : GoodIn wsX7_left wsX4_leftOver := goodIn_r _ [27, 28, 29, 30, 31, 32, 33, 34, 35, 36, 4, 37, 38, 39, 40, 9, 10, 11, 12, 13, 41, 42, 43, 44, 45, 46, 47, 48, 49, 50, 51, 52, 53, 54, 55, 56, 57, 58, 59, 60, 61, 62, 63, 64, 65, 66, 14, 15, 16, 17, 18, 67, 68, 69] (by decide +kernel) (by decide +kernel)
set_option maxRecDepth 20000 in
theorem gX7_left_X4_leftOver : GoodIn wsX7_left (va_wsS RX7 148 yX4_leftOver wsX4_leftOver) := goodIn_app (goodIn_of _ (by decide +kernel)) ggX7_left_X4_leftOver
theorem dX7_left_0 : decode cX7_left 0 = .ok (.iload_n 1, 1) := by decide +kernel
theorem dX7_left_1 : decode cX7_left 1 = .ok (.lload_n 2, 1) := by decide +kernel
theorem dX7_left_2 : decode cX7_left 2 = .ok (.invokestatic 52, 3) := by decide +kernel
theorem dX7_left_5 : decode cX7_left 5 = .ok (.lstore 6, 2) := by decide +kernel
theorem dX7_left_7 : decode cX7_left 7 = .ok (.iload_n 1, 1) := by decide +kernel
theorem dX7_left_8 : decode cX7_left 8 = .ok (.lload 4, 2) := by decide +kernel
theorem dX7_left_10 : decode cX7_left 10 = .ok (.invokestatic 52, 3) := by decide +kernel
theorem dX7_left_13 : decode cX7_left 13 = .ok (.lstore 8, 2) := by decide +kernel
theorem dX7_left_15 : decode cX7_left 15 = .ok (.iload_n 1, 1) := by decide +kernel
theorem dX7_left_16 : decode cX7_left 16 = .ok (.lload 6, 2) := by decide +kernel
theorem dX7_left_18 : decode cX7_left 18 = .ok (.invokestatic 58, 3) := by decide +kernel
theorem dX7_left_21 : decode cX7_left 21 = .ok (.ifCond .eq 21, 3) := by decide +kernel
theorem dX7_left_24 : decode cX7_left 24 = .ok (.iload_n 1, 1) := by decide +kernel
theorem dX7_left_25 : decode cX7_left 25 = .ok (.lload 8, 2) := by decide +kernel
theorem dX7_left_27 : decode cX7_left 27 = .ok (.invokestatic 62, 3) := by decide +kernel
theorem dX7_left_30 : decode cX7_left 30 = .ok (.ifCond .ne 12, 3) := by decide +kernel
theorem dX7_left_33 : decode cX7_left 33 = .ok (.iload_n 1, 1) := by decide +kernel
theorem dX7_left_34 : decode cX7_left 34 = .ok (.lload 8, 2) := by decide +kernel
theorem dX7_left_36 : decode cX7_left 36 = .ok (.invokestatic 165, 3) := by decide +kernel
theorem dX7_left_39 : decode cX7_left 39 = .ok (.ifCond .ne 6, 3) := by decide +kernel
theorem dX7_left_42 : decode cX7_left 42 = .ok (.bipush (-102), 2) := by decide +kernel
theorem dX7_left_44 : decode cX7_left 44 = .ok (.ireturn, 1) := by decide +kernel
theorem dX7_left_45 : decode cX7_left 45 = .ok (.aload_n 0, 1) := by decide +kernel
theorem dX7_left_46 : decode cX7_left 46 = .ok (.iload_n 1, 1) := by decide +kernel
theorem dX7_left_47 : decode cX7_left 47 = .ok (.lload 6, 2) := by decide +kernel
theorem dX7_left_49 : decode cX7_left 49 = .ok (.lload 8, 2) := by decide +kernel
theorem dX7_left_51 : decode cX7_left 51 = .ok (.invokestatic 148, 3) := by decide +kernel
theorem dX7_left_54 : decode cX7_left 54 = .ok (.putfield 40, 3) := by decide +kernel
theorem dX7_left_57 : decode cX7_left 57 = .ok (.iconst 1, 1) := by decide +kernel
theorem dX7_left_58 : decode cX7_left 58 = .ok (.ireturn, 1) := by decide +kernel
theorem dX7_failed_0 : decode cX7_failed 0 = .ok (.aload_n 0, 1) := by decide +kernel
theorem dX7_failed_1 : decode cX7_failed 1 = .ok (.getfield 44, 3) := by decide +kernel
theorem dX7_failed_4 : decode cX7_failed 4 = .ok (.ireturn, 1) := by decide +kernel
theorem dX7_about_0 : decode cX7_about 0 = .ok (.iload_n 1, 1) := by decide +kernel
theorem dX7_about_1 : decode cX7_about 1 = .ok (.ifCond .ne 8, 3) := by decide +kernel
theorem dX7_about_4 : decode cX7_about 4 = .ok (.aload_n 0, 1) := by decide +kernel
theorem dX7_about_5 : decode cX7_about 5 = .ok (.getfield 15, 3) := by decide +kernel
theorem dX7_about_8 : decode cX7_about 8 = .ok (.ireturn, 1) := by decide +kernel
theorem dX7_about_9 : decode cX7_about 9 = .ok (.iload_n 1, 1) := by decide +kernel
theorem dX7_about_10 : decode cX7_about 10 = .ok (.iconst 1, 1) := by decide +kernel
theorem dX7_about_11 : decode cX7_about 11 = .ok (.if_icmp .ne 8, 3) := by decide +kernel
theorem dX7_about_14 : decode cX7_about 14 = .ok (.aload_n 0, 1) := by decide +kernel
theorem dX7_about_15 : decode cX7_about 15 = .ok (.getfield 25, 3) := by decide +kernel
theorem dX7_about_18 : decode cX7_about 18 = .ok (.ireturn, 1) := by decide +kernel
theorem dX7_about_19 : decode cX7_about 19 = .ok (.iload_n 1, 1) := by decide +kernel
theorem dX7_about_20 : decode cX7_about 20 = .ok (.iconst 2, 1) := by decide +kernel
theorem dX7_about_21 : decode cX7_about 21 = .ok (.isub, 1) := by decide +kernel
theorem dX7_about_22 : decode cX7_about 22 = .ok (.istore_n 2, 1) := by decide +kernel
theorem dX7_about_23 : decode cX7_about 23 = .ok (.iload_n 2, 1) := by decide +kernel
theorem dX7_about_24 : decode cX7_about 24 = .ok (.ifCond .lt 17, 3) := by decide +kernel
theorem dX7_about_27 : decode cX7_about 27 = .ok (.iload_n 2, 1) := by decide +kernel
theorem dX7_about_28 : decode cX7_about 28 = .ok (.iconst 5, 1) := by decide +kernel
theorem dX7_about_29 : decode cX7_about 29 = .ok (.if_icmp .ge 12, 3) := by decide +kernel
theorem dX7_about_32 : decode cX7_about 32 = .ok (.aload_n 0, 1) := by decide +kernel
theorem dX7_about_33 : decode cX7_about 33 = .ok (.getfield 47, 3) := by decide +kernel
theorem dX7_about_36 : decode cX7_about 36 = .ok (.iload_n 2, 1) := by decide +kernel
theorem dX7_about_37 : decode cX7_about 37 = .ok (.iaload, 1) := by decide +kernel
theorem dX7_about_38 : decode cX7_about 38 = .ok (.goto 5, 3) := by decide +kernel
theorem dX7_about_41 : decode cX7_about 41 = .ok (.bipush (-102), 2) := by decide +kernel
theorem dX7_about_43 : decode cX7_about 43 = .ok (.ireturn, 1) := by decide +kernel
theorem dX7_failWith_0 : decode cX7_failWith 0 = .ok (.aload_n 0, 1) := by decide +kernel
theorem dX7_failWith_1 : decode cX7_failWith 1 = .ok (.iload_n 1, 1) := by decide +kernel
theorem dX7_failWith_2 : decode cX7_failWith 2 = .ok (.putfield 44, 3) := by decide +kernel
theorem dX7_failWith_5 : decode cX7_failWith 5 = .ok (.bipush (-11), 2) := by decide +kernel
theorem dX7_failWith_7 : decode cX7_failWith 7 = .ok (.iload_n 1, 1) := by decide +kernel
theorem dX7_failWith_8 : decode cX7_failWith 8 = .ok (.isub, 1) := by decide +kernel
theorem dX7_failWith_9 : decode cX7_failWith 9 = .ok (.istore_n 2, 1) := by decide +kernel
theorem dX7_failWith_10 : decode cX7_failWith 10 = .ok (.iload_n 2, 1) := by decide +kernel
theorem dX7_failWith_11 : decode cX7_failWith 11 = .ok (.ifCond .lt 18, 3) := by decide +kernel
theorem dX7_failWith_14 : decode cX7_failWith 14 = .ok (.iload_n 2, 1) := by decide +kernel
theorem dX7_failWith_15 : decode cX7_failWith 15 = .ok (.iconst 5, 1) := by decide +kernel
theorem dX7_failWith_16 : decode cX7_failWith 16 = .ok (.if_icmp .ge 13, 3) := by decide +kernel
theorem dX7_failWith_19 : decode cX7_failWith 19 = .ok (.aload_n 0, 1) := by decide +kernel
theorem dX7_failWith_20 : decode cX7_failWith 20 = .ok (.getfield 47, 3) := by decide +kernel
theorem dX7_failWith_23 : decode cX7_failWith 23 = .ok (.iload_n 2, 1) := by decide +kernel
theorem dX7_failWith_24 : decode cX7_failWith 24 = .ok (.dup2, 1) := by decide +kernel
theorem dX7_failWith_25 : decode cX7_failWith 25 = .ok (.iaload, 1) := by decide +kernel
theorem dX7_failWith_26 : decode cX7_failWith 26 = .ok (.iconst 1, 1) := by decide +kernel
theorem dX7_failWith_27 : decode cX7_failWith 27 = .ok (.iadd, 1) := by decide +kernel
theorem dX7_failWith_28 : decode cX7_failWith 28 = .ok (.iastore, 1) := by decide +kernel
theorem dX7_failWith_29 : decode cX7_failWith 29 = .ok (.iload_n 1, 1) := by decide +kernel
theorem dX7_failWith_30 : decode cX7_failWith 30 = .ok (.ireturn, 1) := by decide +kernel
theorem dX7_done_0 : decode cX7_done 0 = .ok (.aload_n 0, 1) := by decide +kernel
theorem dX7_done_1 : decode cX7_done 1 = .ok (.iconst 0, 1) := by decide +kernel
theorem dX7_done_2 : decode cX7_done 2 = .ok (.putfield 44, 3) := by decide +kernel
theorem dX7_done_5 : decode cX7_done 5 = .ok (.iload_n 1, 1) := by decide +kernel
theorem dX7_done_6 : decode cX7_done 6 = .ok (.ireturn, 1) := by decide +kernel
theorem dX7_dialAt_0 : decode cX7_dialAt 0 = .ok (.iload_n 1, 1) := by decide +kernel
theorem dX7_dialAt_1 : decode cX7_dialAt 1 = .ok (.ifCond .lt 20, 3) := by decide +kernel
theorem dX7_dialAt_4 : decode cX7_dialAt 4 = .ok (.iload_n 1, 1) := by decide +kernel
theorem dX7_dialAt_5 : decode cX7_dialAt 5 = .ok (.aload_n 0, 1) := by decide +kernel
theorem dX7_dialAt_6 : decode cX7_dialAt 6 = .ok (.getfield 15, 3) := by decide +kernel
theorem dX7_dialAt_9 : decode cX7_dialAt 9 = .ok (.if_icmp .ge 12, 3) := by decide +kernel
theorem dX7_dialAt_12 : decode cX7_dialAt 12 = .ok (.aload_n 0, 1) := by decide +kernel
theorem dX7_dialAt_13 : decode cX7_dialAt 13 = .ok (.getfield 11, 3) := by decide +kernel
theorem dX7_dialAt_16 : decode cX7_dialAt 16 = .ok (.iload_n 1, 1) := by decide +kernel
theorem dX7_dialAt_17 : decode cX7_dialAt 17 = .ok (.aaload, 1) := by decide +kernel
theorem dX7_dialAt_18 : decode cX7_dialAt 18 = .ok (.goto 4, 3) := by decide +kernel
theorem dX7_dialAt_21 : decode cX7_dialAt 21 = .ok (.aconst_null, 1) := by decide +kernel
theorem dX7_dialAt_22 : decode cX7_dialAt 22 = .ok (.areturn, 1) := by decide +kernel
theorem dX7_driveAt_0 : decode cX7_driveAt 0 = .ok (.iload_n 1, 1) := by decide +kernel
theorem dX7_driveAt_1 : decode cX7_driveAt 1 = .ok (.ifCond .lt 20, 3) := by decide +kernel
theorem dX7_driveAt_4 : decode cX7_driveAt 4 = .ok (.iload_n 1, 1) := by decide +kernel
theorem dX7_driveAt_5 : decode cX7_driveAt 5 = .ok (.aload_n 0, 1) := by decide +kernel
theorem dX7_driveAt_6 : decode cX7_driveAt 6 = .ok (.getfield 25, 3) := by decide +kernel
theorem dX7_driveAt_9 : decode cX7_driveAt 9 = .ok (.if_icmp .ge 12, 3) := by decide +kernel
theorem dX7_driveAt_12 : decode cX7_driveAt 12 = .ok (.aload_n 0, 1) := by decide +kernel
theorem dX7_driveAt_13 : decode cX7_driveAt 13 = .ok (.getfield 21, 3) := by decide +kernel
theorem dX7_driveAt_16 : decode cX7_driveAt 16 = .ok (.iload_n 1, 1) := by decide +kernel
theorem dX7_driveAt_17 : decode cX7_driveAt 17 = .ok (.aaload, 1) := by decide +kernel
theorem dX7_driveAt_18 : decode cX7_driveAt 18 = .ok (.goto 4, 3) := by decide +kernel
theorem dX7_driveAt_21 : decode cX7_driveAt 21 = .ok (.aconst_null, 1) := by decide +kernel
theorem dX7_driveAt_22 : decode cX7_driveAt 22 = .ok (.areturn, 1) := by decide +kernel
theorem dX7_rowAt_0 : decode cX7_rowAt 0 = .ok (.iload_n 1, 1) := by decide +kernel
theorem dX7_rowAt_1 : decode cX7_rowAt 1 = .ok (.ifCond .lt 9, 3) := by decide +kernel
theorem dX7_rowAt_4 : decode cX7_rowAt 4 = .ok (.iload_n 1, 1) := by decide +kernel
theorem dX7_rowAt_5 : decode cX7_rowAt 5 = .ok (.bipush 8, 2) := by decide +kernel
theorem dX7_rowAt_7 : decode cX7_rowAt 7 = .ok (.if_icmp .lt 5, 3) := by decide +kernel
theorem dX7_rowAt_10 : decode cX7_rowAt 10 = .ok (.aconst_null, 1) := by decide +kernel
theorem dX7_rowAt_11 : decode cX7_rowAt 11 = .ok (.areturn, 1) := by decide +kernel
theorem dX7_rowAt_12 : decode cX7_rowAt 12 = .ok (.aload_n 0, 1) := by decide +kernel
theorem dX7_rowAt_13 : decode cX7_rowAt 13 = .ok (.getfield 36, 3) := by decide +kernel
theorem dX7_rowAt_16 : decode cX7_rowAt 16 = .ok (.iconst 2, 1) := by decide +kernel
theorem dX7_rowAt_17 : decode cX7_rowAt 17 = .ok (.iload_n 1, 1) := by decide +kernel
theorem dX7_rowAt_18 : decode cX7_rowAt 18 = .ok (.imul, 1) := by decide +kernel
theorem dX7_rowAt_19 : decode cX7_rowAt 19 = .ok (.iload_n 2, 1) := by decide +kernel
theorem dX7_rowAt_20 : decode cX7_rowAt 20 = .ok (.ifCond .eq 7, 3) := by decide +kernel
theorem dX7_rowAt_23 : decode cX7_rowAt 23 = .ok (.iconst 1, 1) := by decide +kernel
theorem dX7_rowAt_24 : decode cX7_rowAt 24 = .ok (.goto 4, 3) := by decide +kernel
theorem dX7_rowAt_27 : decode cX7_rowAt 27 = .ok (.iconst 0, 1) := by decide +kernel
theorem dX7_rowAt_28 : decode cX7_rowAt 28 = .ok (.iadd, 1) := by decide +kernel
theorem dX7_rowAt_29 : decode cX7_rowAt 29 = .ok (.aaload, 1) := by decide +kernel
theorem dX7_rowAt_30 : decode cX7_rowAt 30 = .ok (.areturn, 1) := by decide +kernel
theorem dX7_isSlot_0 : decode cX7_isSlot 0 = .ok (.iload_n 0, 1) := by decide +kernel
theorem dX7_isSlot_1 : decode cX7_isSlot 1 = .ok (.ifCond .lt 13, 3) := by decide +kernel
theorem dX7_isSlot_4 : decode cX7_isSlot 4 = .ok (.iload_n 0, 1) := by decide +kernel
theorem dX7_isSlot_5 : decode cX7_isSlot 5 = .ok (.bipush 6, 2) := by decide +kernel
theorem dX7_isSlot_7 : decode cX7_isSlot 7 = .ok (.if_icmp .ge 7, 3) := by decide +kernel
theorem dX7_isSlot_10 : decode cX7_isSlot 10 = .ok (.iconst 1, 1) := by decide +kernel
theorem dX7_isSlot_11 : decode cX7_isSlot 11 = .ok (.goto 4, 3) := by decide +kernel
theorem dX7_isSlot_14 : decode cX7_isSlot 14 = .ok (.iconst 0, 1) := by decide +kernel
theorem dX7_isSlot_15 : decode cX7_isSlot 15 = .ok (.ireturn, 1) := by decide +kernel
theorem dX7_isShaft_0 : decode cX7_isShaft 0 = .ok (.iload_n 0, 1) := by decide +kernel
theorem dX7_isShaft_1 : decode cX7_isShaft 1 = .ok (.ifCond .lt 12, 3) := by decide +kernel
theorem dX7_isShaft_4 : decode cX7_isShaft 4 = .ok (.iload_n 0, 1) := by decide +kernel
theorem dX7_isShaft_5 : decode cX7_isShaft 5 = .ok (.iconst 2, 1) := by decide +kernel
theorem dX7_isShaft_6 : decode cX7_isShaft 6 = .ok (.if_icmp .ge 7, 3) := by decide +kernel
theorem dX7_isShaft_9 : decode cX7_isShaft 9 = .ok (.iconst 1, 1) := by decide +kernel
theorem dX7_isShaft_10 : decode cX7_isShaft 10 = .ok (.goto 4, 3) := by decide +kernel
theorem dX7_isShaft_13 : decode cX7_isShaft 13 = .ok (.iconst 0, 1) := by decide +kernel
theorem dX7_isShaft_14 : decode cX7_isShaft 14 = .ok (.ireturn, 1) := by decide +kernel
theorem dX7_isShaftPlace_0 : decode cX7_isShaftPlace 0 = .ok (.iload_n 0, 1) := by decide +kernel
theorem dX7_isShaftPlace_1 : decode cX7_isShaftPlace 1 = .ok (.ifCond .lt 12, 3) := by decide +kernel
theorem dX7_isShaftPlace_4 : decode cX7_isShaftPlace 4 = .ok (.iload_n 0, 1) := by decide +kernel
theorem dX7_isShaftPlace_5 : decode cX7_isShaftPlace 5 = .ok (.iconst 4, 1) := by decide +kernel
theorem dX7_isShaftPlace_6 : decode cX7_isShaftPlace 6 = .ok (.if_icmp .ge 7, 3) := by decide +kernel
theorem dX7_isShaftPlace_9 : decode cX7_isShaftPlace 9 = .ok (.iconst 1, 1) := by decide +kernel
theorem dX7_isShaftPlace_10 : decode cX7_isShaftPlace 10 = .ok (.goto 4, 3) := by decide +kernel
theorem dX7_isShaftPlace_13 : decode cX7_isShaftPlace 13 = .ok (.iconst 0, 1) := by decide +kernel
theorem dX7_isShaftPlace_14 : decode cX7_isShaftPlace 14 = .ok (.ireturn, 1) := by decide +kernel
theorem dX7_isKind_0 : decode cX7_isKind 0 = .ok (.iload_n 0, 1) := by decide +kernel
theorem dX7_isKind_1 : decode cX7_isKind 1 = .ok (.ifCond .lt 12, 3) := by decide +kernel
theorem dX7_isKind_4 : decode cX7_isKind 4 = .ok (.iload_n 0, 1) := by decide +kernel
theorem dX7_isKind_5 : decode cX7_isKind 5 = .ok (.iconst 3, 1) := by decide +kernel
theorem dX7_isKind_6 : decode cX7_isKind 6 = .ok (.if_icmp .gt 7, 3) := by decide +kernel
theorem dX7_isKind_9 : decode cX7_isKind 9 = .ok (.iconst 1, 1) := by decide +kernel
theorem dX7_isKind_10 : decode cX7_isKind 10 = .ok (.goto 4, 3) := by decide +kernel
theorem dX7_isKind_13 : decode cX7_isKind 13 = .ok (.iconst 0, 1) := by decide +kernel
theorem dX7_isKind_14 : decode cX7_isKind 14 = .ok (.ireturn, 1) := by decide +kernel
theorem dX7_isReal_0 : decode cX7_isReal 0 = .ok (.iload_n 0, 1) := by decide +kernel
theorem dX7_isReal_1 : decode cX7_isReal 1 = .ok (.iconst 2, 1) := by decide +kernel
theorem dX7_isReal_2 : decode cX7_isReal 2 = .ok (.if_icmp .eq 8, 3) := by decide +kernel
theorem dX7_isReal_5 : decode cX7_isReal 5 = .ok (.iload_n 0, 1) := by decide +kernel
theorem dX7_isReal_6 : decode cX7_isReal 6 = .ok (.iconst 3, 1) := by decide +kernel
theorem dX7_isReal_7 : decode cX7_isReal 7 = .ok (.if_icmp .ne 7, 3) := by decide +kernel
theorem dX7_isReal_10 : decode cX7_isReal 10 = .ok (.iconst 1, 1) := by decide +kernel
theorem dX7_isReal_11 : decode cX7_isReal 11 = .ok (.goto 4, 3) := by decide +kernel
theorem dX7_isReal_14 : decode cX7_isReal 14 = .ok (.iconst 0, 1) := by decide +kernel
theorem dX7_isReal_15 : decode cX7_isReal 15 = .ok (.ireturn, 1) := by decide +kernel
set_option maxRecDepth 20000 in
theorem ggX7_newDrive_X6_init : GoodIn wsX7_newDrive wsX6_init := goodIn_r _ [12, 13, 14, 15, 16, 17, 18, 19, 20, 21, 22, 35, 36, 37, 38, 39, 40, 41, 42, 32, 33, 34] (by decide +kernel) (by decide +kernel)
set_option maxRecDepth 20000 in
theorem gX7_newDrive_X6_init : GoodIn wsX7_newDrive (wsX6_init) := ggX7_newDrive_X6_init
set_option maxRecDepth 20000 in
theorem ggX7_newDrive_X0_init : GoodIn wsX7_newDrive wsX0_init := goodIn_r _ [25, 26, 27, 14, 15, 16, 17, 18, 19, 20, 21, 22, 35, 36, 37, 38, 39, 40, 41, 42, 32, 33, 34] (by decide +kernel) (by decide +kernel)
set_option maxRecDepth 20000 in
theorem gX7_newDrive_X0_init : GoodIn wsX7_newDrive (wsX0_init) := ggX7_newDrive_X0_init
set_option maxRecDepth 20000 in
theorem ggX7_newDrive_X3_init : GoodIn wsX7_newDrive wsX3_init := goodIn_r _ [30, 31, 24, 6, 25, 26, 27, 14, 15, 16, 17, 18, 19, 20, 21, 22, 35, 36, 37, 38, 39, 40, 41, 42, 32, 33, 34] (by decide +kernel) (by decide +kernel)
set_option maxRecDepth 20000 in
theorem gX7_newDrive_X3_init : GoodIn wsX7_newDrive (wsX3_init) := ggX7_newDrive_X3_init
theorem dX7_newDrive_0 : decode cX7_newDrive 0 = .ok (.iload_n 0, 1) := by decide +kernel
theorem dX7_newDrive_1 : decode cX7_newDrive 1 = .ok (.ifCond .ne 13, 3) := by decide +kernel
theorem dX7_newDrive_4 : decode cX7_newDrive 4 = .ok (.new 176, 3) := by decide +kernel
theorem dX7_newDrive_7 : decode cX7_newDrive 7 = .ok (.dup, 1) := by decide +kernel
theorem dX7_newDrive_8 : decode cX7_newDrive 8 = .ok (.iload_n 1, 1) := by decide +kernel
theorem dX7_newDrive_9 : decode cX7_newDrive 9 = .ok (.lload_n 2, 1) := by decide +kernel
theorem dX7_newDrive_10 : decode cX7_newDrive 10 = .ok (.invokespecial 178, 3) := by decide +kernel
theorem dX7_newDrive_13 : decode cX7_newDrive 13 = .ok (.areturn, 1) := by decide +kernel
theorem dX7_newDrive_14 : decode cX7_newDrive 14 = .ok (.iload_n 0, 1) := by decide +kernel
theorem dX7_newDrive_15 : decode cX7_newDrive 15 = .ok (.iconst 1, 1) := by decide +kernel
theorem dX7_newDrive_16 : decode cX7_newDrive 16 = .ok (.if_icmp .ne 15, 3) := by decide +kernel
theorem dX7_newDrive_19 : decode cX7_newDrive 19 = .ok (.new 112, 3) := by decide +kernel
theorem dX7_newDrive_22 : decode cX7_newDrive 22 = .ok (.dup, 1) := by decide +kernel
theorem dX7_newDrive_23 : decode cX7_newDrive 23 = .ok (.iload_n 1, 1) := by decide +kernel
theorem dX7_newDrive_24 : decode cX7_newDrive 24 = .ok (.lload_n 2, 1) := by decide +kernel
theorem dX7_newDrive_25 : decode cX7_newDrive 25 = .ok (.invokespecial 181, 3) := by decide +kernel
theorem dX7_newDrive_28 : decode cX7_newDrive 28 = .ok (.goto 12, 3) := by decide +kernel
theorem dX7_newDrive_31 : decode cX7_newDrive 31 = .ok (.new 182, 3) := by decide +kernel
theorem dX7_newDrive_34 : decode cX7_newDrive 34 = .ok (.dup, 1) := by decide +kernel
theorem dX7_newDrive_35 : decode cX7_newDrive 35 = .ok (.iload_n 1, 1) := by decide +kernel
theorem dX7_newDrive_36 : decode cX7_newDrive 36 = .ok (.lload_n 2, 1) := by decide +kernel
theorem dX7_newDrive_37 : decode cX7_newDrive 37 = .ok (.invokespecial 184, 3) := by decide +kernel
theorem dX7_newDrive_40 : decode cX7_newDrive 40 = .ok (.areturn, 1) := by decide +kernel
set_option maxRecDepth 20000 in
theorem ggX7_castReal_X7_isReal : GoodIn wsX7_castReal wsX7_isReal := goodIn_r _ [13] (by decide +kernel) (by decide +kernel)
set_option maxRecDepth 20000 in
theorem gX7_castReal_X7_isReal : GoodIn wsX7_castReal (va_wsS RX7 162 yX7_isReal wsX7_isReal) := goodIn_app (goodIn_of _ (by decide +kernel)) ggX7_castReal_X7_isReal
set_option maxRecDepth 20000 in
theorem ggX7_castReal_X4_ofReal : GoodIn wsX7_castReal wsX4_ofReal := goodIn_r _ [17, 18, 19, 16, 20, 21, 22, 23, 24, 25, 26, 27, 28, 29, 30, 31, 32, 33, 34, 35, 36, 37, 38, 39, 40, 41, 42, 43, 44, 45, 46, 5, 47, 48, 49, 50, 51, 52, 53, 54, 55, 56, 57, 58, 59, 60, 61, 62, 63, 64, 65, 66, 67, 68] (by decide +kernel) (by decide +kernel)
set_option maxRecDepth 20000 in
theorem gX7_castReal_X4_ofReal : GoodIn wsX7_castReal (va_wsS RX7 144 yX4_ofReal wsX4_ofReal) := goodIn_app (goodIn_of _ (by decide +kernel)) ggX7_castReal_X4_ofReal
set_option maxRecDepth 20000 in
theorem ggX7_castReal_X4_cutToLong : GoodIn wsX7_castReal wsX4_cutToLong := goodIn_r _ [71, 34, 24, 36, 37, 16, 38, 39, 40, 41, 21, 22, 23, 25, 42, 43, 44, 45, 46, 5, 47, 48, 49, 50, 54, 55, 56, 57, 58, 59, 60, 61, 62, 63, 64, 65] (by decide +kernel) (by decide +kernel)
set_option maxRecDepth 20000 in
theorem gX7_castReal_X4_cutToLong : GoodIn wsX7_castReal (va_wsS RX7 185 yX4_cutToLong wsX4_cutToLong) := goodIn_app (goodIn_of _ (by decide +kernel)) ggX7_castReal_X4_cutToLong
theorem dX7_castReal_0 : decode cX7_castReal 0 = .ok (.iload_n 1, 1) := by decide +kernel
theorem dX7_castReal_1 : decode cX7_castReal 1 = .ok (.invokestatic 162, 3) := by decide +kernel
theorem dX7_castReal_4 : decode cX7_castReal 4 = .ok (.ifCond .eq 28, 3) := by decide +kernel
theorem dX7_castReal_7 : decode cX7_castReal 7 = .ok (.iload_n 0, 1) := by decide +kernel
theorem dX7_castReal_8 : decode cX7_castReal 8 = .ok (.iconst 3, 1) := by decide +kernel
theorem dX7_castReal_9 : decode cX7_castReal 9 = .ok (.if_icmp .ne 7, 3) := by decide +kernel
theorem dX7_castReal_12 : decode cX7_castReal 12 = .ok (.iconst 1, 1) := by decide +kernel
theorem dX7_castReal_13 : decode cX7_castReal 13 = .ok (.goto 4, 3) := by decide +kernel
theorem dX7_castReal_16 : decode cX7_castReal 16 = .ok (.iconst 0, 1) := by decide +kernel
theorem dX7_castReal_17 : decode cX7_castReal 17 = .ok (.iload_n 1, 1) := by decide +kernel
theorem dX7_castReal_18 : decode cX7_castReal 18 = .ok (.iconst 3, 1) := by decide +kernel
theorem dX7_castReal_19 : decode cX7_castReal 19 = .ok (.if_icmp .ne 7, 3) := by decide +kernel
theorem dX7_castReal_22 : decode cX7_castReal 22 = .ok (.iconst 1, 1) := by decide +kernel
theorem dX7_castReal_23 : decode cX7_castReal 23 = .ok (.goto 4, 3) := by decide +kernel
theorem dX7_castReal_26 : decode cX7_castReal 26 = .ok (.iconst 0, 1) := by decide +kernel
theorem dX7_castReal_27 : decode cX7_castReal 27 = .ok (.lload_n 2, 1) := by decide +kernel
theorem dX7_castReal_28 : decode cX7_castReal 28 = .ok (.invokestatic 144, 3) := by decide +kernel
theorem dX7_castReal_31 : decode cX7_castReal 31 = .ok (.lreturn, 1) := by decide +kernel
theorem dX7_castReal_32 : decode cX7_castReal 32 = .ok (.iload_n 0, 1) := by decide +kernel
theorem dX7_castReal_33 : decode cX7_castReal 33 = .ok (.iconst 3, 1) := by decide +kernel
theorem dX7_castReal_34 : decode cX7_castReal 34 = .ok (.if_icmp .ne 7, 3) := by decide +kernel
theorem dX7_castReal_37 : decode cX7_castReal 37 = .ok (.iconst 1, 1) := by decide +kernel
theorem dX7_castReal_38 : decode cX7_castReal 38 = .ok (.goto 4, 3) := by decide +kernel
theorem dX7_castReal_41 : decode cX7_castReal 41 = .ok (.iconst 0, 1) := by decide +kernel
theorem dX7_castReal_42 : decode cX7_castReal 42 = .ok (.lload_n 2, 1) := by decide +kernel
theorem dX7_castReal_43 : decode cX7_castReal 43 = .ok (.invokestatic 185, 3) := by decide +kernel
theorem dX7_castReal_46 : decode cX7_castReal 46 = .ok (.lstore 4, 2) := by decide +kernel
theorem dX7_castReal_48 : decode cX7_castReal 48 = .ok (.iload_n 1, 1) := by decide +kernel
theorem dX7_castReal_49 : decode cX7_castReal 49 = .ok (.iconst 1, 1) := by decide +kernel
theorem dX7_castReal_50 : decode cX7_castReal 50 = .ok (.if_icmp .ne 6, 3) := by decide +kernel
theorem dX7_castReal_53 : decode cX7_castReal 53 = .ok (.lload 4, 2) := by decide +kernel
theorem dX7_castReal_55 : decode cX7_castReal 55 = .ok (.lreturn, 1) := by decide +kernel
theorem dX7_castReal_56 : decode cX7_castReal 56 = .ok (.ldc2_w 190, 3) := by decide +kernel
theorem dX7_castReal_59 : decode cX7_castReal 59 = .ok (.ldc2_w 192, 3) := by decide +kernel
theorem dX7_castReal_62 : decode cX7_castReal 62 = .ok (.lload 4, 2) := by decide +kernel
theorem dX7_castReal_64 : decode cX7_castReal 64 = .ok (.invokestatic 194, 3) := by decide +kernel
theorem dX7_castReal_67 : decode cX7_castReal 67 = .ok (.invokestatic 200, 3) := by decide +kernel
theorem dX7_castReal_70 : decode cX7_castReal 70 = .ok (.lreturn, 1) := by decide +kernel
set_option maxRecDepth 20000 in
theorem ggX7_castWhole_X7_isReal : GoodIn wsX7_castWhole wsX7_isReal := goodIn_r _ [4] (by decide +kernel) (by decide +kernel)
set_option maxRecDepth 20000 in
theorem gX7_castWhole_X7_isReal : GoodIn wsX7_castWhole (va_wsS RX7 162 yX7_isReal wsX7_isReal) := goodIn_app (goodIn_of _ (by decide +kernel)) ggX7_castWhole_X7_isReal
set_option maxRecDepth 20000 in
theorem ggX7_castWhole_X4_ofLong : GoodIn wsX7_castWhole wsX4_ofLong := goodIn_r _ [8, 9, 10, 11, 12, 13, 14, 7, 15, 16, 17, 18, 19, 20, 21, 22, 23, 24, 25, 26, 27, 28, 29, 30, 31, 32, 33, 34, 35, 36, 37, 38, 39, 40, 41, 42, 43, 44, 45, 46, 47, 48, 49] (by decide +kernel) (by decide +kernel)
set_option maxRecDepth 20000 in
theorem gX7_castWhole_X4_ofLong : GoodIn wsX7_castWhole (va_wsS RX7 203 yX4_ofLong wsX4_ofLong) := goodIn_app (goodIn_of _ (by decide +kernel)) ggX7_castWhole_X4_ofLong
theorem dX7_castWhole_0 : decode cX7_castWhole 0 = .ok (.iload_n 0, 1) := by decide +kernel
theorem dX7_castWhole_1 : decode cX7_castWhole 1 = .ok (.invokestatic 162, 3) := by decide +kernel
theorem dX7_castWhole_4 : decode cX7_castWhole 4 = .ok (.ifCond .eq 18, 3) := by decide +kernel
theorem dX7_castWhole_7 : decode cX7_castWhole 7 = .ok (.iload_n 0, 1) := by decide +kernel
theorem dX7_castWhole_8 : decode cX7_castWhole 8 = .ok (.iconst 3, 1) := by decide +kernel
theorem dX7_castWhole_9 : decode cX7_castWhole 9 = .ok (.if_icmp .ne 7, 3) := by decide +kernel
theorem dX7_castWhole_12 : decode cX7_castWhole 12 = .ok (.iconst 1, 1) := by decide +kernel
theorem dX7_castWhole_13 : decode cX7_castWhole 13 = .ok (.goto 4, 3) := by decide +kernel
theorem dX7_castWhole_16 : decode cX7_castWhole 16 = .ok (.iconst 0, 1) := by decide +kernel
theorem dX7_castWhole_17 : decode cX7_castWhole 17 = .ok (.lload_n 1, 1) := by decide +kernel
theorem dX7_castWhole_18 : decode cX7_castWhole 18 = .ok (.invokestatic 203, 3) := by decide +kernel
theorem dX7_castWhole_21 : decode cX7_castWhole 21 = .ok (.lreturn, 1) := by decide +kernel
theorem dX7_castWhole_22 : decode cX7_castWhole 22 = .ok (.iload_n 0, 1) := by decide +kernel
theorem dX7_castWhole_23 : decode cX7_castWhole 23 = .ok (.ifCond .ne 9, 3) := by decide +kernel
theorem dX7_castWhole_26 : decode cX7_castWhole 26 = .ok (.lload_n 1, 1) := by decide +kernel
theorem dX7_castWhole_27 : decode cX7_castWhole 27 = .ok (.l2i, 1) := by decide +kernel
theorem dX7_castWhole_28 : decode cX7_castWhole 28 = .ok (.i2l, 1) := by decide +kernel
theorem dX7_castWhole_29 : decode cX7_castWhole 29 = .ok (.goto 4, 3) := by decide +kernel
theorem dX7_castWhole_32 : decode cX7_castWhole 32 = .ok (.lload_n 1, 1) := by decide +kernel
theorem dX7_castWhole_33 : decode cX7_castWhole 33 = .ok (.lreturn, 1) := by decide +kernel
