set_option maxRecDepth 20000 in
theorem ggX8_gear_X8_done : GoodIn wsX8_gear wsX8_done := goodIn_r _ [23, 18, 24, 25, 26, 27, 28, 29, 30, 31, 32, 33, 34, 35, 36, 37, 38, 39, 40, 41, 42, 43] (by decide +kernel) (by decide +kernel)
set_option maxRecDepth 20000 in
theorem gX8_gear_X8_done : GoodIn wsX8_gear (wsV RX8 139 RX8 yX8_done wsX8_done) := goodIn_app (goodIn_of _ (by decide +kernel)) ggX8_gear_X8_done
theorem dX8_gear_0 : decode cX8_gear 0 = .ok (.iload_n 1, 1) := by decide +kernel
theorem dX8_gear_1 : decode cX8_gear 1 = .ok (.invokestatic 163, 3) := by decide +kernel
theorem dX8_gear_4 : decode cX8_gear 4 = .ok (.ifCond .ne 6, 3) := by decide +kernel
theorem dX8_gear_7 : decode cX8_gear 7 = .ok (.bipush (-101), 2) := by decide +kernel
theorem dX8_gear_9 : decode cX8_gear 9 = .ok (.ireturn, 1) := by decide +kernel
theorem dX8_gear_10 : decode cX8_gear 10 = .ok (.iload_n 2, 1) := by decide +kernel
theorem dX8_gear_11 : decode cX8_gear 11 = .ok (.i2l, 1) := by decide +kernel
theorem dX8_gear_12 : decode cX8_gear 12 = .ok (.ldc2_w 177, 3) := by decide +kernel
theorem dX8_gear_15 : decode cX8_gear 15 = .ok (.ldc2_w 179, 3) := by decide +kernel
theorem dX8_gear_18 : decode cX8_gear 18 = .ok (.invokestatic 100, 3) := by decide +kernel
theorem dX8_gear_21 : decode cX8_gear 21 = .ok (.ifCond .ne 6, 3) := by decide +kernel
theorem dX8_gear_24 : decode cX8_gear 24 = .ok (.bipush (-102), 2) := by decide +kernel
theorem dX8_gear_26 : decode cX8_gear 26 = .ok (.ireturn, 1) := by decide +kernel
theorem dX8_gear_27 : decode cX8_gear 27 = .ok (.aload_n 0, 1) := by decide +kernel
theorem dX8_gear_28 : decode cX8_gear 28 = .ok (.getfield 44, 3) := by decide +kernel
theorem dX8_gear_31 : decode cX8_gear 31 = .ok (.iload_n 1, 1) := by decide +kernel
theorem dX8_gear_32 : decode cX8_gear 32 = .ok (.iaload, 1) := by decide +kernel
theorem dX8_gear_33 : decode cX8_gear 33 = .ok (.istore_n 3, 1) := by decide +kernel
theorem dX8_gear_34 : decode cX8_gear 34 = .ok (.iload_n 3, 1) := by decide +kernel
theorem dX8_gear_35 : decode cX8_gear 35 = .ok (.iconst (-1), 1) := by decide +kernel
theorem dX8_gear_36 : decode cX8_gear 36 = .ok (.if_icmp .eq 12, 3) := by decide +kernel
theorem dX8_gear_39 : decode cX8_gear 39 = .ok (.aload_n 0, 1) := by decide +kernel
theorem dX8_gear_40 : decode cX8_gear 40 = .ok (.getfield 31, 3) := by decide +kernel
theorem dX8_gear_43 : decode cX8_gear 43 = .ok (.iload_n 3, 1) := by decide +kernel
theorem dX8_gear_44 : decode cX8_gear 44 = .ok (.iaload, 1) := by decide +kernel
theorem dX8_gear_45 : decode cX8_gear 45 = .ok (.ifCond .ne 20, 3) := by decide +kernel
theorem dX8_gear_48 : decode cX8_gear 48 = .ok (.aload_n 0, 1) := by decide +kernel
theorem dX8_gear_49 : decode cX8_gear 49 = .ok (.iload_n 3, 1) := by decide +kernel
theorem dX8_gear_50 : decode cX8_gear 50 = .ok (.iconst (-1), 1) := by decide +kernel
theorem dX8_gear_51 : decode cX8_gear 51 = .ok (.if_icmp .ne 8, 3) := by decide +kernel
theorem dX8_gear_54 : decode cX8_gear 54 = .ok (.bipush (-11), 2) := by decide +kernel
theorem dX8_gear_56 : decode cX8_gear 56 = .ok (.goto 5, 3) := by decide +kernel
theorem dX8_gear_59 : decode cX8_gear 59 = .ok (.bipush (-13), 2) := by decide +kernel
theorem dX8_gear_61 : decode cX8_gear 61 = .ok (.invokevirtual 143, 3) := by decide +kernel
theorem dX8_gear_64 : decode cX8_gear 64 = .ok (.ireturn, 1) := by decide +kernel
theorem dX8_gear_65 : decode cX8_gear 65 = .ok (.aload_n 0, 1) := by decide +kernel
theorem dX8_gear_66 : decode cX8_gear 66 = .ok (.getfield 38, 3) := by decide +kernel
theorem dX8_gear_69 : decode cX8_gear 69 = .ok (.iload_n 3, 1) := by decide +kernel
theorem dX8_gear_70 : decode cX8_gear 70 = .ok (.iaload, 1) := by decide +kernel
theorem dX8_gear_71 : decode cX8_gear 71 = .ok (.istore 4, 2) := by decide +kernel
theorem dX8_gear_73 : decode cX8_gear 73 = .ok (.aload_n 0, 1) := by decide +kernel
theorem dX8_gear_74 : decode cX8_gear 74 = .ok (.getfield 38, 3) := by decide +kernel
theorem dX8_gear_77 : decode cX8_gear 77 = .ok (.iload_n 3, 1) := by decide +kernel
theorem dX8_gear_78 : decode cX8_gear 78 = .ok (.iload_n 2, 1) := by decide +kernel
theorem dX8_gear_79 : decode cX8_gear 79 = .ok (.iastore, 1) := by decide +kernel
theorem dX8_gear_80 : decode cX8_gear 80 = .ok (.aload_n 0, 1) := by decide +kernel
theorem dX8_gear_81 : decode cX8_gear 81 = .ok (.iload 4, 2) := by decide +kernel
theorem dX8_gear_83 : decode cX8_gear 83 = .ok (.invokevirtual 139, 3) := by decide +kernel
theorem dX8_gear_86 : decode cX8_gear 86 = .ok (.ireturn, 1) := by decide +kernel
set_option maxRecDepth 20000 in
theorem ggX8_lay_X8_isShaft : GoodIn wsX8_lay wsX8_isShaft := goodIn_r _ [8, 9, 10, 7, 11] (by decide +kernel) (by decide +kernel)
set_option maxRecDepth 20000 in
theorem gX8_lay_X8_isShaft : GoodIn wsX8_lay (va_wsS RX8 181 yX8_isShaft wsX8_isShaft) := goodIn_app (goodIn_of _ (by decide +kernel)) ggX8_lay_X8_isShaft
set_option maxRecDepth 20000 in
theorem ggX8_lay_X8_isSlot : GoodIn wsX8_lay wsX8_isSlot := goodIn_r _ [14, 15, 9, 10, 7, 11] (by decide +kernel) (by decide +kernel)
set_option maxRecDepth 20000 in
theorem gX8_lay_X8_isSlot : GoodIn wsX8_lay (va_wsS RX8 163 yX8_isSlot wsX8_isSlot) := goodIn_app (goodIn_of _ (by decide +kernel)) ggX8_lay_X8_isSlot
set_option maxRecDepth 20000 in
theorem ggX8_lay_X8_in : GoodIn wsX8_lay wsX8_in := goodIn_r _ [11] (by decide +kernel) (by decide +kernel)
set_option maxRecDepth 20000 in
theorem gX8_lay_X8_in : GoodIn wsX8_lay (va_wsS RX8 100 yX8_in wsX8_in) := goodIn_app (goodIn_of _ (by decide +kernel)) ggX8_lay_X8_in
set_option maxRecDepth 20000 in
theorem ggX8_lay_X8_fails : GoodIn wsX8_lay wsX8_fails := goodIn_r _ [19, 20, 21, 26, 27, 28, 29, 30, 31, 32, 33, 34, 35, 36, 37, 38, 39, 40, 41, 42, 43, 44, 45] (by decide +kernel) (by decide +kernel)
set_option maxRecDepth 20000 in
theorem gX8_lay_X8_fails : GoodIn wsX8_lay (wsV RX8 143 RX8 yX8_fails wsX8_fails) := goodIn_app (goodIn_of _ (by decide +kernel)) ggX8_lay_X8_fails
set_option maxRecDepth 20000 in
theorem ggX8_lay_X8_done : GoodIn wsX8_lay wsX8_done := goodIn_r _ [25, 20, 26, 27, 28, 29, 30, 31, 32, 33, 34, 35, 36, 37, 38, 39, 40, 41, 42, 43, 44, 45] (by decide +kernel) (by decide +kernel)
set_option maxRecDepth 20000 in
theorem gX8_lay_X8_done : GoodIn wsX8_lay (wsV RX8 139 RX8 yX8_done wsX8_done) := goodIn_app (goodIn_of _ (by decide +kernel)) ggX8_lay_X8_done
theorem dX8_lay_0 : decode cX8_lay 0 = .ok (.iload_n 1, 1) := by decide +kernel
theorem dX8_lay_1 : decode cX8_lay 1 = .ok (.invokestatic 181, 3) := by decide +kernel
theorem dX8_lay_4 : decode cX8_lay 4 = .ok (.ifCond .eq 10, 3) := by decide +kernel
theorem dX8_lay_7 : decode cX8_lay 7 = .ok (.iload_n 3, 1) := by decide +kernel
theorem dX8_lay_8 : decode cX8_lay 8 = .ok (.invokestatic 163, 3) := by decide +kernel
theorem dX8_lay_11 : decode cX8_lay 11 = .ok (.ifCond .ne 6, 3) := by decide +kernel
theorem dX8_lay_14 : decode cX8_lay 14 = .ok (.bipush (-101), 2) := by decide +kernel
theorem dX8_lay_16 : decode cX8_lay 16 = .ok (.ireturn, 1) := by decide +kernel
theorem dX8_lay_17 : decode cX8_lay 17 = .ok (.iload_n 2, 1) := by decide +kernel
theorem dX8_lay_18 : decode cX8_lay 18 = .ok (.i2l, 1) := by decide +kernel
theorem dX8_lay_19 : decode cX8_lay 19 = .ok (.lconst 0, 1) := by decide +kernel
theorem dX8_lay_20 : decode cX8_lay 20 = .ok (.ldc2_w 184, 3) := by decide +kernel
theorem dX8_lay_23 : decode cX8_lay 23 = .ok (.invokestatic 100, 3) := by decide +kernel
theorem dX8_lay_26 : decode cX8_lay 26 = .ok (.ifCond .ne 10, 3) := by decide +kernel
theorem dX8_lay_29 : decode cX8_lay 29 = .ok (.aload_n 0, 1) := by decide +kernel
theorem dX8_lay_30 : decode cX8_lay 30 = .ok (.bipush (-12), 2) := by decide +kernel
theorem dX8_lay_32 : decode cX8_lay 32 = .ok (.invokevirtual 143, 3) := by decide +kernel
theorem dX8_lay_35 : decode cX8_lay 35 = .ok (.ireturn, 1) := by decide +kernel
theorem dX8_lay_36 : decode cX8_lay 36 = .ok (.aload_n 0, 1) := by decide +kernel
theorem dX8_lay_37 : decode cX8_lay 37 = .ok (.getfield 44, 3) := by decide +kernel
theorem dX8_lay_40 : decode cX8_lay 40 = .ok (.iload_n 3, 1) := by decide +kernel
theorem dX8_lay_41 : decode cX8_lay 41 = .ok (.iaload, 1) := by decide +kernel
theorem dX8_lay_42 : decode cX8_lay 42 = .ok (.istore 4, 2) := by decide +kernel
theorem dX8_lay_44 : decode cX8_lay 44 = .ok (.iload_n 1, 1) := by decide +kernel
theorem dX8_lay_45 : decode cX8_lay 45 = .ok (.iconst 1, 1) := by decide +kernel
theorem dX8_lay_46 : decode cX8_lay 46 = .ok (.if_icmp .ne 26, 3) := by decide +kernel
theorem dX8_lay_49 : decode cX8_lay 49 = .ok (.iload 4, 2) := by decide +kernel
theorem dX8_lay_51 : decode cX8_lay 51 = .ok (.iconst (-1), 1) := by decide +kernel
theorem dX8_lay_52 : decode cX8_lay 52 = .ok (.if_icmp .eq 20, 3) := by decide +kernel
theorem dX8_lay_55 : decode cX8_lay 55 = .ok (.aload_n 0, 1) := by decide +kernel
theorem dX8_lay_56 : decode cX8_lay 56 = .ok (.getfield 31, 3) := by decide +kernel
theorem dX8_lay_59 : decode cX8_lay 59 = .ok (.iload 4, 2) := by decide +kernel
theorem dX8_lay_61 : decode cX8_lay 61 = .ok (.iaload, 1) := by decide +kernel
theorem dX8_lay_62 : decode cX8_lay 62 = .ok (.ifCond .ne 10, 3) := by decide +kernel
theorem dX8_lay_65 : decode cX8_lay 65 = .ok (.aload_n 0, 1) := by decide +kernel
theorem dX8_lay_66 : decode cX8_lay 66 = .ok (.bipush (-14), 2) := by decide +kernel
theorem dX8_lay_68 : decode cX8_lay 68 = .ok (.invokevirtual 143, 3) := by decide +kernel
theorem dX8_lay_71 : decode cX8_lay 71 = .ok (.ireturn, 1) := by decide +kernel
theorem dX8_lay_72 : decode cX8_lay 72 = .ok (.aload_n 0, 1) := by decide +kernel
theorem dX8_lay_73 : decode cX8_lay 73 = .ok (.getfield 47, 3) := by decide +kernel
theorem dX8_lay_76 : decode cX8_lay 76 = .ok (.iconst 4, 1) := by decide +kernel
theorem dX8_lay_77 : decode cX8_lay 77 = .ok (.iload_n 1, 1) := by decide +kernel
theorem dX8_lay_78 : decode cX8_lay 78 = .ok (.imul, 1) := by decide +kernel
theorem dX8_lay_79 : decode cX8_lay 79 = .ok (.iload_n 2, 1) := by decide +kernel
theorem dX8_lay_80 : decode cX8_lay 80 = .ok (.iadd, 1) := by decide +kernel
theorem dX8_lay_81 : decode cX8_lay 81 = .ok (.iload 4, 2) := by decide +kernel
theorem dX8_lay_83 : decode cX8_lay 83 = .ok (.iastore, 1) := by decide +kernel
theorem dX8_lay_84 : decode cX8_lay 84 = .ok (.aload_n 0, 1) := by decide +kernel
theorem dX8_lay_85 : decode cX8_lay 85 = .ok (.iconst 1, 1) := by decide +kernel
theorem dX8_lay_86 : decode cX8_lay 86 = .ok (.invokevirtual 139, 3) := by decide +kernel
theorem dX8_lay_89 : decode cX8_lay 89 = .ok (.ireturn, 1) := by decide +kernel
set_option maxRecDepth 20000 in
theorem ggX8_wind_X8_isShaft : GoodIn wsX8_wind wsX8_isShaft := goodIn_r _ [6, 7, 8, 5, 9] (by decide +kernel) (by decide +kernel)
set_option maxRecDepth 20000 in
theorem gX8_wind_X8_isShaft : GoodIn wsX8_wind (va_wsS RX8 181 yX8_isShaft wsX8_isShaft) := goodIn_app (goodIn_of _ (by decide +kernel)) ggX8_wind_X8_isShaft
set_option maxRecDepth 20000 in
theorem ggX8_wind_X8_isDial : GoodIn wsX8_wind wsX8_isDial := goodIn_r _ [13, 14, 7, 8, 5, 9, 56, 57, 58, 59, 60, 61, 62, 63, 64, 65, 66, 67, 68, 69, 70, 71, 72, 73, 74, 75] (by decide +kernel) (by decide +kernel)
set_option maxRecDepth 20000 in
theorem gX8_wind_X8_isDial : GoodIn wsX8_wind (wsV RX8 131 RX8 yX8_isDial wsX8_isDial) := goodIn_app (goodIn_of _ (by decide +kernel)) ggX8_wind_X8_isDial
set_option maxRecDepth 20000 in
theorem ggX8_wind_X8_pullCause : GoodIn wsX8_wind wsX8_pullCause := goodIn_r _ [18, 19, 20, 21, 5, 22, 23, 24, 25, 26, 27, 28, 29, 30, 31, 32, 33, 34, 35, 36, 37, 38, 39, 40, 41, 42, 43, 44, 45, 46, 47, 48, 49, 50, 56, 57, 58, 59, 60, 61, 62, 63, 64, 65, 66, 67, 68, 69, 70, 71, 72, 73, 74, 75] (by decide +kernel) (by decide +kernel)
set_option maxRecDepth 20000 in
theorem gX8_wind_X8_pullCause : GoodIn wsX8_wind (wsV RX8 173 RX8 yX8_pullCause wsX8_pullCause) := goodIn_app (goodIn_of _ (by decide +kernel)) ggX8_wind_X8_pullCause
set_option maxRecDepth 20000 in
theorem ggX8_wind_X8_fails : GoodIn wsX8_wind wsX8_fails := goodIn_r _ [54, 1, 55, 56, 57, 58, 59, 60, 61, 62, 63, 64, 65, 66, 67, 68, 69, 70, 71, 72, 73, 74, 75] (by decide +kernel) (by decide +kernel)
set_option maxRecDepth 20000 in
theorem gX8_wind_X8_fails : GoodIn wsX8_wind (wsV RX8 143 RX8 yX8_fails wsX8_fails) := goodIn_app (goodIn_of _ (by decide +kernel)) ggX8_wind_X8_fails
theorem dX8_wind_0 : decode cX8_wind 0 = .ok (.iload_n 1, 1) := by decide +kernel
theorem dX8_wind_1 : decode cX8_wind 1 = .ok (.invokestatic 181, 3) := by decide +kernel
theorem dX8_wind_4 : decode cX8_wind 4 = .ok (.ifCond .eq 11, 3) := by decide +kernel
theorem dX8_wind_7 : decode cX8_wind 7 = .ok (.aload_n 0, 1) := by decide +kernel
theorem dX8_wind_8 : decode cX8_wind 8 = .ok (.iload_n 2, 1) := by decide +kernel
theorem dX8_wind_9 : decode cX8_wind 9 = .ok (.invokevirtual 131, 3) := by decide +kernel
theorem dX8_wind_12 : decode cX8_wind 12 = .ok (.ifCond .ne 6, 3) := by decide +kernel
theorem dX8_wind_15 : decode cX8_wind 15 = .ok (.bipush (-101), 2) := by decide +kernel
theorem dX8_wind_17 : decode cX8_wind 17 = .ok (.ireturn, 1) := by decide +kernel
theorem dX8_wind_18 : decode cX8_wind 18 = .ok (.aload_n 0, 1) := by decide +kernel
theorem dX8_wind_19 : decode cX8_wind 19 = .ok (.iconst 0, 1) := by decide +kernel
theorem dX8_wind_20 : decode cX8_wind 20 = .ok (.putfield 66, 3) := by decide +kernel
theorem dX8_wind_23 : decode cX8_wind 23 = .ok (.iconst 0, 1) := by decide +kernel
theorem dX8_wind_24 : decode cX8_wind 24 = .ok (.istore_n 3, 1) := by decide +kernel
theorem dX8_wind_25 : decode cX8_wind 25 = .ok (.iload_n 3, 1) := by decide +kernel
theorem dX8_wind_26 : decode cX8_wind 26 = .ok (.iconst 4, 1) := by decide +kernel
theorem dX8_wind_27 : decode cX8_wind 27 = .ok (.if_icmp .ge 41, 3) := by decide +kernel
theorem dX8_wind_30 : decode cX8_wind 30 = .ok (.aload_n 0, 1) := by decide +kernel
theorem dX8_wind_31 : decode cX8_wind 31 = .ok (.aload_n 0, 1) := by decide +kernel
theorem dX8_wind_32 : decode cX8_wind 32 = .ok (.getfield 47, 3) := by decide +kernel
theorem dX8_wind_35 : decode cX8_wind 35 = .ok (.iconst 4, 1) := by decide +kernel
theorem dX8_wind_36 : decode cX8_wind 36 = .ok (.iload_n 1, 1) := by decide +kernel
theorem dX8_wind_37 : decode cX8_wind 37 = .ok (.imul, 1) := by decide +kernel
theorem dX8_wind_38 : decode cX8_wind 38 = .ok (.iload_n 3, 1) := by decide +kernel
theorem dX8_wind_39 : decode cX8_wind 39 = .ok (.iadd, 1) := by decide +kernel
theorem dX8_wind_40 : decode cX8_wind 40 = .ok (.iaload, 1) := by decide +kernel
theorem dX8_wind_41 : decode cX8_wind 41 = .ok (.iload_n 2, 1) := by decide +kernel
theorem dX8_wind_42 : decode cX8_wind 42 = .ok (.invokevirtual 173, 3) := by decide +kernel
theorem dX8_wind_45 : decode cX8_wind 45 = .ok (.istore 4, 2) := by decide +kernel
theorem dX8_wind_47 : decode cX8_wind 47 = .ok (.iload 4, 2) := by decide +kernel
theorem dX8_wind_49 : decode cX8_wind 49 = .ok (.ifCond .eq 13, 3) := by decide +kernel
theorem dX8_wind_52 : decode cX8_wind 52 = .ok (.aload_n 0, 1) := by decide +kernel
theorem dX8_wind_53 : decode cX8_wind 53 = .ok (.iload 4, 2) := by decide +kernel
theorem dX8_wind_55 : decode cX8_wind 55 = .ok (.invokevirtual 143, 3) := by decide +kernel
theorem dX8_wind_58 : decode cX8_wind 58 = .ok (.istore 4, 2) := by decide +kernel
theorem dX8_wind_60 : decode cX8_wind 60 = .ok (.iload_n 3, 1) := by decide +kernel
theorem dX8_wind_61 : decode cX8_wind 61 = .ok (.ireturn, 1) := by decide +kernel
theorem dX8_wind_62 : decode cX8_wind 62 = .ok (.iinc 3 1, 3) := by decide +kernel
theorem dX8_wind_65 : decode cX8_wind 65 = .ok (.goto (-40), 3) := by decide +kernel
theorem dX8_wind_68 : decode cX8_wind 68 = .ok (.iconst 4, 1) := by decide +kernel
theorem dX8_wind_69 : decode cX8_wind 69 = .ok (.ireturn, 1) := by decide +kernel
set_option maxRecDepth 20000 in
theorem ggX8_laid_X8_isShaft : GoodIn wsX8_laid wsX8_isShaft := goodIn_r _ [6, 7, 8, 5, 9] (by decide +kernel) (by decide +kernel)
set_option maxRecDepth 20000 in
theorem gX8_laid_X8_isShaft : GoodIn wsX8_laid (va_wsS RX8 181 yX8_isShaft wsX8_isShaft) := goodIn_app (goodIn_of _ (by decide +kernel)) ggX8_laid_X8_isShaft
set_option maxRecDepth 20000 in
theorem ggX8_laid_X8_in : GoodIn wsX8_laid wsX8_in := goodIn_r _ [9] (by decide +kernel) (by decide +kernel)
set_option maxRecDepth 20000 in
theorem gX8_laid_X8_in : GoodIn wsX8_laid (va_wsS RX8 100 yX8_in wsX8_in) := goodIn_app (goodIn_of _ (by decide +kernel)) ggX8_laid_X8_in
set_option maxRecDepth 20000 in
theorem ggX8_laid_X8_done : GoodIn wsX8_laid wsX8_done := goodIn_r _ [13, 14, 20, 21, 22, 23, 24, 25, 26, 27, 28, 29, 30, 31, 32, 33, 34, 35, 36, 37, 38, 39] (by decide +kernel) (by decide +kernel)
set_option maxRecDepth 20000 in
theorem gX8_laid_X8_done : GoodIn wsX8_laid (wsV RX8 139 RX8 yX8_done wsX8_done) := goodIn_app (goodIn_of _ (by decide +kernel)) ggX8_laid_X8_done
set_option maxRecDepth 20000 in
theorem ggX8_laid_X8_fails : GoodIn wsX8_laid wsX8_fails := goodIn_r _ [18, 14, 19, 20, 21, 22, 23, 24, 25, 26, 27, 28, 29, 30, 31, 32, 33, 34, 35, 36, 37, 38, 39] (by decide +kernel) (by decide +kernel)
set_option maxRecDepth 20000 in
theorem gX8_laid_X8_fails : GoodIn wsX8_laid (wsV RX8 143 RX8 yX8_fails wsX8_fails) := goodIn_app (goodIn_of _ (by decide +kernel)) ggX8_laid_X8_fails
theorem dX8_laid_0 : decode cX8_laid 0 = .ok (.iload_n 1, 1) := by decide +kernel
theorem dX8_laid_1 : decode cX8_laid 1 = .ok (.invokestatic 181, 3) := by decide +kernel
theorem dX8_laid_4 : decode cX8_laid 4 = .ok (.ifCond .ne 6, 3) := by decide +kernel
theorem dX8_laid_7 : decode cX8_laid 7 = .ok (.bipush (-101), 2) := by decide +kernel
theorem dX8_laid_9 : decode cX8_laid 9 = .ok (.ireturn, 1) := by decide +kernel
theorem dX8_laid_10 : decode cX8_laid 10 = .ok (.iload_n 2, 1) := by decide +kernel
theorem dX8_laid_11 : decode cX8_laid 11 = .ok (.i2l, 1) := by decide +kernel
theorem dX8_laid_12 : decode cX8_laid 12 = .ok (.lconst 0, 1) := by decide +kernel
theorem dX8_laid_13 : decode cX8_laid 13 = .ok (.ldc2_w 184, 3) := by decide +kernel
theorem dX8_laid_16 : decode cX8_laid 16 = .ok (.invokestatic 100, 3) := by decide +kernel
theorem dX8_laid_19 : decode cX8_laid 19 = .ok (.ifCond .eq 20, 3) := by decide +kernel
theorem dX8_laid_22 : decode cX8_laid 22 = .ok (.aload_n 0, 1) := by decide +kernel
theorem dX8_laid_23 : decode cX8_laid 23 = .ok (.aload_n 0, 1) := by decide +kernel
theorem dX8_laid_24 : decode cX8_laid 24 = .ok (.getfield 47, 3) := by decide +kernel
theorem dX8_laid_27 : decode cX8_laid 27 = .ok (.iconst 4, 1) := by decide +kernel
theorem dX8_laid_28 : decode cX8_laid 28 = .ok (.iload_n 1, 1) := by decide +kernel
theorem dX8_laid_29 : decode cX8_laid 29 = .ok (.imul, 1) := by decide +kernel
theorem dX8_laid_30 : decode cX8_laid 30 = .ok (.iload_n 2, 1) := by decide +kernel
theorem dX8_laid_31 : decode cX8_laid 31 = .ok (.iadd, 1) := by decide +kernel
theorem dX8_laid_32 : decode cX8_laid 32 = .ok (.iaload, 1) := by decide +kernel
theorem dX8_laid_33 : decode cX8_laid 33 = .ok (.invokevirtual 139, 3) := by decide +kernel
theorem dX8_laid_36 : decode cX8_laid 36 = .ok (.goto 9, 3) := by decide +kernel
theorem dX8_laid_39 : decode cX8_laid 39 = .ok (.aload_n 0, 1) := by decide +kernel
theorem dX8_laid_40 : decode cX8_laid 40 = .ok (.bipush (-12), 2) := by decide +kernel
theorem dX8_laid_42 : decode cX8_laid 42 = .ok (.invokevirtual 143, 3) := by decide +kernel
theorem dX8_laid_45 : decode cX8_laid 45 = .ok (.ireturn, 1) := by decide +kernel
set_option maxRecDepth 20000 in
theorem ggX8_pulls_X8_isDrive : GoodIn wsX8_pulls wsX8_isDrive := goodIn_r _ [6, 7, 8, 9, 5, 10, 11, 12, 13, 14, 15, 16, 17, 18, 19, 20, 21, 22, 23, 24, 25, 26, 27, 28, 29, 30] (by decide +kernel) (by decide +kernel)
set_option maxRecDepth 20000 in
theorem gX8_pulls_X8_isDrive : GoodIn wsX8_pulls (wsV RX8 166 RX8 yX8_isDrive wsX8_isDrive) := goodIn_app (goodIn_of _ (by decide +kernel)) ggX8_pulls_X8_isDrive
theorem dX8_pulls_0 : decode cX8_pulls 0 = .ok (.aload_n 0, 1) := by decide +kernel
theorem dX8_pulls_1 : decode cX8_pulls 1 = .ok (.iload_n 1, 1) := by decide +kernel
theorem dX8_pulls_2 : decode cX8_pulls 2 = .ok (.invokevirtual 166, 3) := by decide +kernel
theorem dX8_pulls_5 : decode cX8_pulls 5 = .ok (.ifCond .eq 12, 3) := by decide +kernel
theorem dX8_pulls_8 : decode cX8_pulls 8 = .ok (.aload_n 0, 1) := by decide +kernel
theorem dX8_pulls_9 : decode cX8_pulls 9 = .ok (.getfield 41, 3) := by decide +kernel
theorem dX8_pulls_12 : decode cX8_pulls 12 = .ok (.iload_n 1, 1) := by decide +kernel
theorem dX8_pulls_13 : decode cX8_pulls 13 = .ok (.iaload, 1) := by decide +kernel
theorem dX8_pulls_14 : decode cX8_pulls 14 = .ok (.goto 5, 3) := by decide +kernel
theorem dX8_pulls_17 : decode cX8_pulls 17 = .ok (.bipush (-101), 2) := by decide +kernel
theorem dX8_pulls_19 : decode cX8_pulls 19 = .ok (.ireturn, 1) := by decide +kernel
set_option maxRecDepth 20000 in
theorem ggX8_isLog_X8_in : GoodIn wsX8_isLog wsX8_in := goodIn_r _ [5] (by decide +kernel) (by decide +kernel)
set_option maxRecDepth 20000 in
theorem gX8_isLog_X8_in : GoodIn wsX8_isLog (va_wsS RX8 100 yX8_in wsX8_in) := goodIn_app (goodIn_of _ (by decide +kernel)) ggX8_isLog_X8_in
theorem dX8_isLog_0 : decode cX8_isLog 0 = .ok (.iload_n 0, 1) := by decide +kernel
theorem dX8_isLog_1 : decode cX8_isLog 1 = .ok (.i2l, 1) := by decide +kernel
theorem dX8_isLog_2 : decode cX8_isLog 2 = .ok (.lconst 0, 1) := by decide +kernel
theorem dX8_isLog_3 : decode cX8_isLog 3 = .ok (.ldc2_w 186, 3) := by decide +kernel
theorem dX8_isLog_6 : decode cX8_isLog 6 = .ok (.invokestatic 100, 3) := by decide +kernel
theorem dX8_isLog_9 : decode cX8_isLog 9 = .ok (.ireturn, 1) := by decide +kernel
theorem dX8_rowOf_0 : decode cX8_rowOf 0 = .ok (.iload_n 1, 1) := by decide +kernel
theorem dX8_rowOf_1 : decode cX8_rowOf 1 = .ok (.ifCond .eq 11, 3) := by decide +kernel
theorem dX8_rowOf_4 : decode cX8_rowOf 4 = .ok (.iconst 2, 1) := by decide +kernel
theorem dX8_rowOf_5 : decode cX8_rowOf 5 = .ok (.iload_n 0, 1) := by decide +kernel
theorem dX8_rowOf_6 : decode cX8_rowOf 6 = .ok (.imul, 1) := by decide +kernel
theorem dX8_rowOf_7 : decode cX8_rowOf 7 = .ok (.iconst 1, 1) := by decide +kernel
theorem dX8_rowOf_8 : decode cX8_rowOf 8 = .ok (.iadd, 1) := by decide +kernel
theorem dX8_rowOf_9 : decode cX8_rowOf 9 = .ok (.goto 6, 3) := by decide +kernel
theorem dX8_rowOf_12 : decode cX8_rowOf 12 = .ok (.iconst 2, 1) := by decide +kernel
theorem dX8_rowOf_13 : decode cX8_rowOf 13 = .ok (.iload_n 0, 1) := by decide +kernel
theorem dX8_rowOf_14 : decode cX8_rowOf 14 = .ok (.imul, 1) := by decide +kernel
theorem dX8_rowOf_15 : decode cX8_rowOf 15 = .ok (.ireturn, 1) := by decide +kernel
set_option maxRecDepth 20000 in
theorem ggX8_cause_X8_in : GoodIn wsX8_cause wsX8_in := goodIn_r _ [5] (by decide +kernel) (by decide +kernel)
set_option maxRecDepth 20000 in
theorem gX8_cause_X8_in : GoodIn wsX8_cause (va_wsS RX8 100 yX8_in wsX8_in) := goodIn_app (goodIn_of _ (by decide +kernel)) ggX8_cause_X8_in
theorem dX8_cause_0 : decode cX8_cause 0 = .ok (.aload_n 0, 1) := by decide +kernel
theorem dX8_cause_1 : decode cX8_cause 1 = .ok (.getfield 50, 3) := by decide +kernel
theorem dX8_cause_4 : decode cX8_cause 4 = .ok (.iload_n 1, 1) := by decide +kernel
theorem dX8_cause_5 : decode cX8_cause 5 = .ok (.iaload, 1) := by decide +kernel
theorem dX8_cause_6 : decode cX8_cause 6 = .ok (.iconst (-1), 1) := by decide +kernel
theorem dX8_cause_7 : decode cX8_cause 7 = .ok (.if_icmp .ne 8, 3) := by decide +kernel
theorem dX8_cause_10 : decode cX8_cause 10 = .ok (.bipush (-11), 2) := by decide +kernel
theorem dX8_cause_12 : decode cX8_cause 12 = .ok (.goto 27, 3) := by decide +kernel
theorem dX8_cause_15 : decode cX8_cause 15 = .ok (.iload_n 2, 1) := by decide +kernel
theorem dX8_cause_16 : decode cX8_cause 16 = .ok (.i2l, 1) := by decide +kernel
theorem dX8_cause_17 : decode cX8_cause 17 = .ok (.lconst 0, 1) := by decide +kernel
theorem dX8_cause_18 : decode cX8_cause 18 = .ok (.aload_n 0, 1) := by decide +kernel
theorem dX8_cause_19 : decode cX8_cause 19 = .ok (.getfield 50, 3) := by decide +kernel
theorem dX8_cause_22 : decode cX8_cause 22 = .ok (.iload_n 1, 1) := by decide +kernel
theorem dX8_cause_23 : decode cX8_cause 23 = .ok (.iaload, 1) := by decide +kernel
theorem dX8_cause_24 : decode cX8_cause 24 = .ok (.i2l, 1) := by decide +kernel
theorem dX8_cause_25 : decode cX8_cause 25 = .ok (.lconst 1, 1) := by decide +kernel
theorem dX8_cause_26 : decode cX8_cause 26 = .ok (.lsub, 1) := by decide +kernel
theorem dX8_cause_27 : decode cX8_cause 27 = .ok (.invokestatic 100, 3) := by decide +kernel
theorem dX8_cause_30 : decode cX8_cause 30 = .ok (.ifCond .eq 7, 3) := by decide +kernel
theorem dX8_cause_33 : decode cX8_cause 33 = .ok (.iconst 0, 1) := by decide +kernel
theorem dX8_cause_34 : decode cX8_cause 34 = .ok (.goto 5, 3) := by decide +kernel
theorem dX8_cause_37 : decode cX8_cause 37 = .ok (.bipush (-12), 2) := by decide +kernel
theorem dX8_cause_39 : decode cX8_cause 39 = .ok (.ireturn, 1) := by decide +kernel
set_option maxRecDepth 20000 in
theorem ggX8_log_X8_isLog : GoodIn wsX8_log wsX8_isLog := goodIn_r _ [9, 10, 11, 12, 8, 13] (by decide +kernel) (by decide +kernel)
set_option maxRecDepth 20000 in
theorem gX8_log_X8_isLog : GoodIn wsX8_log (va_wsS RX8 188 yX8_isLog wsX8_isLog) := goodIn_app (goodIn_of _ (by decide +kernel)) ggX8_log_X8_isLog
set_option maxRecDepth 20000 in
theorem ggX8_log_X8_in : GoodIn wsX8_log wsX8_in := goodIn_r _ [13] (by decide +kernel) (by decide +kernel)
set_option maxRecDepth 20000 in
theorem gX8_log_X8_in : GoodIn wsX8_log (va_wsS RX8 100 yX8_in wsX8_in) := goodIn_app (goodIn_of _ (by decide +kernel)) ggX8_log_X8_in
set_option maxRecDepth 20000 in
theorem ggX8_log_X8_rowOf : GoodIn wsX8_log wsX8_rowOf := goodIn_r _ [16] (by decide +kernel) (by decide +kernel)
set_option maxRecDepth 20000 in
theorem gX8_log_X8_rowOf : GoodIn wsX8_log (va_wsS RX8 195 yX8_rowOf wsX8_rowOf) := goodIn_app (goodIn_of _ (by decide +kernel)) ggX8_log_X8_rowOf
theorem dX8_log_0 : decode cX8_log 0 = .ok (.iload_n 1, 1) := by decide +kernel
theorem dX8_log_1 : decode cX8_log 1 = .ok (.invokestatic 188, 3) := by decide +kernel
theorem dX8_log_4 : decode cX8_log 4 = .ok (.ifCond .ne 6, 3) := by decide +kernel
theorem dX8_log_7 : decode cX8_log 7 = .ok (.bipush (-101), 2) := by decide +kernel
theorem dX8_log_9 : decode cX8_log 9 = .ok (.ireturn, 1) := by decide +kernel
theorem dX8_log_10 : decode cX8_log 10 = .ok (.iload_n 3, 1) := by decide +kernel
theorem dX8_log_11 : decode cX8_log 11 = .ok (.i2l, 1) := by decide +kernel
theorem dX8_log_12 : decode cX8_log 12 = .ok (.ldc2_w 191, 3) := by decide +kernel
theorem dX8_log_15 : decode cX8_log 15 = .ok (.ldc2_w 193, 3) := by decide +kernel
theorem dX8_log_18 : decode cX8_log 18 = .ok (.invokestatic 100, 3) := by decide +kernel
theorem dX8_log_21 : decode cX8_log 21 = .ok (.ifCond .ne 6, 3) := by decide +kernel
theorem dX8_log_24 : decode cX8_log 24 = .ok (.bipush (-102), 2) := by decide +kernel
theorem dX8_log_26 : decode cX8_log 26 = .ok (.ireturn, 1) := by decide +kernel
theorem dX8_log_27 : decode cX8_log 27 = .ok (.aload_n 0, 1) := by decide +kernel
theorem dX8_log_28 : decode cX8_log 28 = .ok (.getfield 50, 3) := by decide +kernel
theorem dX8_log_31 : decode cX8_log 31 = .ok (.iload_n 1, 1) := by decide +kernel
theorem dX8_log_32 : decode cX8_log 32 = .ok (.iload_n 2, 1) := by decide +kernel
theorem dX8_log_33 : decode cX8_log 33 = .ok (.invokestatic 195, 3) := by decide +kernel
theorem dX8_log_36 : decode cX8_log 36 = .ok (.iload_n 3, 1) := by decide +kernel
theorem dX8_log_37 : decode cX8_log 37 = .ok (.iastore, 1) := by decide +kernel
theorem dX8_log_38 : decode cX8_log 38 = .ok (.bipush 16, 2) := by decide +kernel
theorem dX8_log_40 : decode cX8_log 40 = .ok (.iload_n 1, 1) := by decide +kernel
theorem dX8_log_41 : decode cX8_log 41 = .ok (.imul, 1) := by decide +kernel
theorem dX8_log_42 : decode cX8_log 42 = .ok (.istore 4, 2) := by decide +kernel
theorem dX8_log_44 : decode cX8_log 44 = .ok (.iload 4, 2) := by decide +kernel
theorem dX8_log_46 : decode cX8_log 46 = .ok (.bipush 16, 2) := by decide +kernel
theorem dX8_log_48 : decode cX8_log 48 = .ok (.iload_n 1, 1) := by decide +kernel
theorem dX8_log_49 : decode cX8_log 49 = .ok (.imul, 1) := by decide +kernel
theorem dX8_log_50 : decode cX8_log 50 = .ok (.bipush 16, 2) := by decide +kernel
theorem dX8_log_52 : decode cX8_log 52 = .ok (.iadd, 1) := by decide +kernel
theorem dX8_log_53 : decode cX8_log 53 = .ok (.if_icmp .ge 53, 3) := by decide +kernel
theorem dX8_log_56 : decode cX8_log 56 = .ok (.aload_n 0, 1) := by decide +kernel
theorem dX8_log_57 : decode cX8_log 57 = .ok (.getfield 53, 3) := by decide +kernel
theorem dX8_log_60 : decode cX8_log 60 = .ok (.iload 4, 2) := by decide +kernel
theorem dX8_log_62 : decode cX8_log 62 = .ok (.iload_n 2, 1) := by decide +kernel
theorem dX8_log_63 : decode cX8_log 63 = .ok (.ifCond .eq 13, 3) := by decide +kernel
theorem dX8_log_66 : decode cX8_log 66 = .ok (.aload_n 0, 1) := by decide +kernel
theorem dX8_log_67 : decode cX8_log 67 = .ok (.getfield 53, 3) := by decide +kernel
theorem dX8_log_70 : decode cX8_log 70 = .ok (.iload 4, 2) := by decide +kernel
theorem dX8_log_72 : decode cX8_log 72 = .ok (.faload, 1) := by decide +kernel
theorem dX8_log_73 : decode cX8_log 73 = .ok (.goto 4, 3) := by decide +kernel
theorem dX8_log_76 : decode cX8_log 76 = .ok (.fconst 0, 1) := by decide +kernel
theorem dX8_log_77 : decode cX8_log 77 = .ok (.fastore, 1) := by decide +kernel
theorem dX8_log_78 : decode cX8_log 78 = .ok (.aload_n 0, 1) := by decide +kernel
theorem dX8_log_79 : decode cX8_log 79 = .ok (.getfield 56, 3) := by decide +kernel
theorem dX8_log_82 : decode cX8_log 82 = .ok (.iload 4, 2) := by decide +kernel
theorem dX8_log_84 : decode cX8_log 84 = .ok (.iload_n 2, 1) := by decide +kernel
theorem dX8_log_85 : decode cX8_log 85 = .ok (.ifCond .eq 7, 3) := by decide +kernel
theorem dX8_log_88 : decode cX8_log 88 = .ok (.dconst 0, 1) := by decide +kernel
theorem dX8_log_89 : decode cX8_log 89 = .ok (.goto 10, 3) := by decide +kernel
theorem dX8_log_92 : decode cX8_log 92 = .ok (.aload_n 0, 1) := by decide +kernel
theorem dX8_log_93 : decode cX8_log 93 = .ok (.getfield 56, 3) := by decide +kernel
theorem dX8_log_96 : decode cX8_log 96 = .ok (.iload 4, 2) := by decide +kernel
theorem dX8_log_98 : decode cX8_log 98 = .ok (.daload, 1) := by decide +kernel
theorem dX8_log_99 : decode cX8_log 99 = .ok (.dastore, 1) := by decide +kernel
theorem dX8_log_100 : decode cX8_log 100 = .ok (.iinc 4 1, 3) := by decide +kernel
theorem dX8_log_103 : decode cX8_log 103 = .ok (.goto (-59), 3) := by decide +kernel
theorem dX8_log_106 : decode cX8_log 106 = .ok (.iconst 1, 1) := by decide +kernel
theorem dX8_log_107 : decode cX8_log 107 = .ok (.ireturn, 1) := by decide +kernel
set_option maxRecDepth 20000 in
theorem ggX8_write_X8_isLog : GoodIn wsX8_write wsX8_isLog := goodIn_r _ [6, 7, 8, 9, 5, 10] (by decide +kernel) (by decide +kernel)
set_option maxRecDepth 20000 in
theorem gX8_write_X8_isLog : GoodIn wsX8_write (va_wsS RX8 188 yX8_isLog wsX8_isLog) := goodIn_app (goodIn_of _ (by decide +kernel)) ggX8_write_X8_isLog
set_option maxRecDepth 20000 in
theorem ggX8_write_X8_isFit : GoodIn wsX8_write wsX8_isFit := goodIn_r _ [13, 14, 15, 5, 16, 17, 18, 19, 20, 21] (by decide +kernel) (by decide +kernel)
set_option maxRecDepth 20000 in
theorem gX8_write_X8_isFit : GoodIn wsX8_write (va_wsS RX8 104 yX8_isFit wsX8_isFit) := goodIn_app (goodIn_of _ (by decide +kernel)) ggX8_write_X8_isFit
set_option maxRecDepth 20000 in
theorem ggX8_write_X8_rowOf : GoodIn wsX8_write wsX8_rowOf := goodIn_r _ [24] (by decide +kernel) (by decide +kernel)
set_option maxRecDepth 20000 in
theorem gX8_write_X8_rowOf : GoodIn wsX8_write (va_wsS RX8 195 yX8_rowOf wsX8_rowOf) := goodIn_app (goodIn_of _ (by decide +kernel)) ggX8_write_X8_rowOf
set_option maxRecDepth 20000 in
theorem ggX8_write_X8_cause : GoodIn wsX8_write wsX8_cause := goodIn_r _ [28, 29, 8, 9, 5, 10, 54, 55, 56, 57, 58, 59, 60, 61, 62, 63, 64, 65, 66, 67, 68, 69, 70, 71, 72, 73] (by decide +kernel) (by decide +kernel)
set_option maxRecDepth 20000 in
theorem gX8_write_X8_cause : GoodIn wsX8_write (wsV RX8 199 RX8 yX8_cause wsX8_cause) := goodIn_app (goodIn_of _ (by decide +kernel)) ggX8_write_X8_cause
set_option maxRecDepth 20000 in
theorem ggX8_write_X8_fails : GoodIn wsX8_write wsX8_fails := goodIn_r _ [33, 34, 35, 54, 55, 56, 57, 58, 59, 60, 61, 62, 63, 64, 65, 66, 67, 68, 69, 70, 71, 72, 73] (by decide +kernel) (by decide +kernel)
set_option maxRecDepth 20000 in
theorem gX8_write_X8_fails : GoodIn wsX8_write (wsV RX8 143 RX8 yX8_fails wsX8_fails) := goodIn_app (goodIn_of _ (by decide +kernel)) ggX8_write_X8_fails
set_option maxRecDepth 20000 in
theorem ggX8_write_X8_doubleOf : GoodIn wsX8_write wsX8_doubleOf := goodIn_r _ [38, 39, 40, 41, 42] (by decide +kernel) (by decide +kernel)
set_option maxRecDepth 20000 in
theorem gX8_write_X8_doubleOf : GoodIn wsX8_write (va_wsS RX8 108 yX8_doubleOf wsX8_doubleOf) := goodIn_app (goodIn_of _ (by decide +kernel)) ggX8_write_X8_doubleOf
set_option maxRecDepth 20000 in
theorem ggX8_write_X8_floatOf : GoodIn wsX8_write wsX8_floatOf := goodIn_r _ [45, 46, 47, 48, 49] (by decide +kernel) (by decide +kernel)
set_option maxRecDepth 20000 in
theorem gX8_write_X8_floatOf : GoodIn wsX8_write (va_wsS RX8 111 yX8_floatOf wsX8_floatOf) := goodIn_app (goodIn_of _ (by decide +kernel)) ggX8_write_X8_floatOf
set_option maxRecDepth 20000 in
theorem ggX8_write_X8_done : GoodIn wsX8_write wsX8_done := goodIn_r _ [53, 34, 54, 55, 56, 57, 58, 59, 60, 61, 62, 63, 64, 65, 66, 67, 68, 69, 70, 71, 72, 73] (by decide +kernel) (by decide +kernel)
set_option maxRecDepth 20000 in
theorem gX8_write_X8_done : GoodIn wsX8_write (wsV RX8 139 RX8 yX8_done wsX8_done) := goodIn_app (goodIn_of _ (by decide +kernel)) ggX8_write_X8_done
theorem dX8_write_0 : decode cX8_write 0 = .ok (.iload_n 1, 1) := by decide +kernel
theorem dX8_write_1 : decode cX8_write 1 = .ok (.invokestatic 188, 3) := by decide +kernel
theorem dX8_write_4 : decode cX8_write 4 = .ok (.ifCond .ne 6, 3) := by decide +kernel
theorem dX8_write_7 : decode cX8_write 7 = .ok (.bipush (-101), 2) := by decide +kernel
theorem dX8_write_9 : decode cX8_write 9 = .ok (.ireturn, 1) := by decide +kernel
theorem dX8_write_10 : decode cX8_write 10 = .ok (.iload_n 2, 1) := by decide +kernel
theorem dX8_write_11 : decode cX8_write 11 = .ok (.lload 4, 2) := by decide +kernel
theorem dX8_write_13 : decode cX8_write 13 = .ok (.invokestatic 104, 3) := by decide +kernel
theorem dX8_write_16 : decode cX8_write 16 = .ok (.ifCond .ne 6, 3) := by decide +kernel
theorem dX8_write_19 : decode cX8_write 19 = .ok (.bipush (-102), 2) := by decide +kernel
theorem dX8_write_21 : decode cX8_write 21 = .ok (.ireturn, 1) := by decide +kernel
theorem dX8_write_22 : decode cX8_write 22 = .ok (.aload_n 0, 1) := by decide +kernel
theorem dX8_write_23 : decode cX8_write 23 = .ok (.iload_n 1, 1) := by decide +kernel
theorem dX8_write_24 : decode cX8_write 24 = .ok (.iload_n 2, 1) := by decide +kernel
theorem dX8_write_25 : decode cX8_write 25 = .ok (.invokestatic 195, 3) := by decide +kernel
theorem dX8_write_28 : decode cX8_write 28 = .ok (.iload_n 3, 1) := by decide +kernel
theorem dX8_write_29 : decode cX8_write 29 = .ok (.invokevirtual 199, 3) := by decide +kernel
theorem dX8_write_32 : decode cX8_write 32 = .ok (.istore 6, 2) := by decide +kernel
theorem dX8_write_34 : decode cX8_write 34 = .ok (.iload 6, 2) := by decide +kernel
theorem dX8_write_36 : decode cX8_write 36 = .ok (.ifCond .eq 10, 3) := by decide +kernel
theorem dX8_write_39 : decode cX8_write 39 = .ok (.aload_n 0, 1) := by decide +kernel
theorem dX8_write_40 : decode cX8_write 40 = .ok (.iload 6, 2) := by decide +kernel
theorem dX8_write_42 : decode cX8_write 42 = .ok (.invokevirtual 143, 3) := by decide +kernel
theorem dX8_write_45 : decode cX8_write 45 = .ok (.ireturn, 1) := by decide +kernel
theorem dX8_write_46 : decode cX8_write 46 = .ok (.iload_n 2, 1) := by decide +kernel
theorem dX8_write_47 : decode cX8_write 47 = .ok (.ifCond .eq 22, 3) := by decide +kernel
theorem dX8_write_50 : decode cX8_write 50 = .ok (.aload_n 0, 1) := by decide +kernel
theorem dX8_write_51 : decode cX8_write 51 = .ok (.getfield 56, 3) := by decide +kernel
theorem dX8_write_54 : decode cX8_write 54 = .ok (.bipush 16, 2) := by decide +kernel
theorem dX8_write_56 : decode cX8_write 56 = .ok (.iload_n 1, 1) := by decide +kernel
theorem dX8_write_57 : decode cX8_write 57 = .ok (.imul, 1) := by decide +kernel
theorem dX8_write_58 : decode cX8_write 58 = .ok (.iload_n 3, 1) := by decide +kernel
theorem dX8_write_59 : decode cX8_write 59 = .ok (.iadd, 1) := by decide +kernel
theorem dX8_write_60 : decode cX8_write 60 = .ok (.lload 4, 2) := by decide +kernel
theorem dX8_write_62 : decode cX8_write 62 = .ok (.invokestatic 108, 3) := by decide +kernel
theorem dX8_write_65 : decode cX8_write 65 = .ok (.dastore, 1) := by decide +kernel
theorem dX8_write_66 : decode cX8_write 66 = .ok (.goto 19, 3) := by decide +kernel
theorem dX8_write_69 : decode cX8_write 69 = .ok (.aload_n 0, 1) := by decide +kernel
theorem dX8_write_70 : decode cX8_write 70 = .ok (.getfield 53, 3) := by decide +kernel
theorem dX8_write_73 : decode cX8_write 73 = .ok (.bipush 16, 2) := by decide +kernel
theorem dX8_write_75 : decode cX8_write 75 = .ok (.iload_n 1, 1) := by decide +kernel
theorem dX8_write_76 : decode cX8_write 76 = .ok (.imul, 1) := by decide +kernel
theorem dX8_write_77 : decode cX8_write 77 = .ok (.iload_n 3, 1) := by decide +kernel
theorem dX8_write_78 : decode cX8_write 78 = .ok (.iadd, 1) := by decide +kernel
theorem dX8_write_79 : decode cX8_write 79 = .ok (.lload 4, 2) := by decide +kernel
theorem dX8_write_81 : decode cX8_write 81 = .ok (.invokestatic 111, 3) := by decide +kernel
theorem dX8_write_84 : decode cX8_write 84 = .ok (.fastore, 1) := by decide +kernel
theorem dX8_write_85 : decode cX8_write 85 = .ok (.aload_n 0, 1) := by decide +kernel
theorem dX8_write_86 : decode cX8_write 86 = .ok (.iconst 1, 1) := by decide +kernel
theorem dX8_write_87 : decode cX8_write 87 = .ok (.invokevirtual 139, 3) := by decide +kernel
theorem dX8_write_90 : decode cX8_write 90 = .ok (.ireturn, 1) := by decide +kernel
set_option maxRecDepth 20000 in
theorem ggX8_read_X8_isLog : GoodIn wsX8_read wsX8_isLog := goodIn_r _ [7, 8, 9, 10, 6, 11] (by decide +kernel) (by decide +kernel)
set_option maxRecDepth 20000 in
theorem gX8_read_X8_isLog : GoodIn wsX8_read (va_wsS RX8 188 yX8_isLog wsX8_isLog) := goodIn_app (goodIn_of _ (by decide +kernel)) ggX8_read_X8_isLog
set_option maxRecDepth 20000 in
theorem ggX8_read_X8_rowOf : GoodIn wsX8_read wsX8_rowOf := goodIn_r _ [14] (by decide +kernel) (by decide +kernel)
set_option maxRecDepth 20000 in
theorem gX8_read_X8_rowOf : GoodIn wsX8_read (va_wsS RX8 195 yX8_rowOf wsX8_rowOf) := goodIn_app (goodIn_of _ (by decide +kernel)) ggX8_read_X8_rowOf
set_option maxRecDepth 20000 in
theorem ggX8_read_X8_cause : GoodIn wsX8_read wsX8_cause := goodIn_r _ [18, 19, 9, 10, 6, 11, 54, 55, 56, 57, 58, 59, 60, 61, 62, 63, 64, 65, 66, 67, 68, 69, 70, 71, 72, 73] (by decide +kernel) (by decide +kernel)
set_option maxRecDepth 20000 in
theorem gX8_read_X8_cause : GoodIn wsX8_read (wsV RX8 199 RX8 yX8_cause wsX8_cause) := goodIn_app (goodIn_of _ (by decide +kernel)) ggX8_read_X8_cause
set_option maxRecDepth 20000 in
theorem ggX8_read_X8_fails : GoodIn wsX8_read wsX8_fails := goodIn_r _ [23, 24, 25, 54, 55, 56, 57, 58, 59, 60, 61, 62, 63, 64, 65, 66, 67, 68, 69, 70, 71, 72, 73] (by decide +kernel) (by decide +kernel)
set_option maxRecDepth 20000 in
theorem gX8_read_X8_fails : GoodIn wsX8_read (wsV RX8 143 RX8 yX8_fails wsX8_fails) := goodIn_app (goodIn_of _ (by decide +kernel)) ggX8_read_X8_fails
set_option maxRecDepth 20000 in
theorem ggX8_read_Jxe99ae_doubleToLongBits_ccdee : GoodIn wsX8_read wsJxe99ae_doubleToLongBits_ccdee := goodIn_r _ [29, 30, 31, 32, 33, 34, 35, 36, 28, 37] (by decide +kernel) (by decide +kernel)
set_option maxRecDepth 20000 in
theorem gX8_read_Jxe99ae_doubleToLongBits_ccdee : GoodIn wsX8_read (va_wsS RX8 148 yJxe99ae_doubleToLongBits_ccdee wsJxe99ae_doubleToLongBits_ccdee) := goodIn_app (goodIn_of _ (by decide +kernel)) ggX8_read_Jxe99ae_doubleToLongBits_ccdee
set_option maxRecDepth 20000 in
theorem ggX8_read_Jxf58ca_floatToIntBits_5c35a : GoodIn wsX8_read wsJxf58ca_floatToIntBits_5c35a := goodIn_r _ [41, 42, 43, 44, 45, 46, 47, 48, 40, 49] (by decide +kernel) (by decide +kernel)
set_option maxRecDepth 20000 in
theorem gX8_read_Jxf58ca_floatToIntBits_5c35a : GoodIn wsX8_read (va_wsS RX8 152 yJxf58ca_floatToIntBits_5c35a wsJxf58ca_floatToIntBits_5c35a) := goodIn_app (goodIn_of _ (by decide +kernel)) ggX8_read_Jxf58ca_floatToIntBits_5c35a
set_option maxRecDepth 20000 in
theorem ggX8_read_X8_done : GoodIn wsX8_read wsX8_done := goodIn_r _ [53, 24, 54, 55, 56, 57, 58, 59, 60, 61, 62, 63, 64, 65, 66, 67, 68, 69, 70, 71, 72, 73] (by decide +kernel) (by decide +kernel)
set_option maxRecDepth 20000 in
theorem gX8_read_X8_done : GoodIn wsX8_read (wsV RX8 139 RX8 yX8_done wsX8_done) := goodIn_app (goodIn_of _ (by decide +kernel)) ggX8_read_X8_done
theorem dX8_read_0 : decode cX8_read 0 = .ok (.iload_n 1, 1) := by decide +kernel
theorem dX8_read_1 : decode cX8_read 1 = .ok (.invokestatic 188, 3) := by decide +kernel
theorem dX8_read_4 : decode cX8_read 4 = .ok (.ifCond .ne 6, 3) := by decide +kernel
theorem dX8_read_7 : decode cX8_read 7 = .ok (.bipush (-101), 2) := by decide +kernel
theorem dX8_read_9 : decode cX8_read 9 = .ok (.ireturn, 1) := by decide +kernel
theorem dX8_read_10 : decode cX8_read 10 = .ok (.aload_n 0, 1) := by decide +kernel
theorem dX8_read_11 : decode cX8_read 11 = .ok (.iload_n 1, 1) := by decide +kernel
theorem dX8_read_12 : decode cX8_read 12 = .ok (.iload_n 2, 1) := by decide +kernel
theorem dX8_read_13 : decode cX8_read 13 = .ok (.invokestatic 195, 3) := by decide +kernel
theorem dX8_read_16 : decode cX8_read 16 = .ok (.iload_n 3, 1) := by decide +kernel
theorem dX8_read_17 : decode cX8_read 17 = .ok (.invokevirtual 199, 3) := by decide +kernel
theorem dX8_read_20 : decode cX8_read 20 = .ok (.istore 4, 2) := by decide +kernel
theorem dX8_read_22 : decode cX8_read 22 = .ok (.iload 4, 2) := by decide +kernel
theorem dX8_read_24 : decode cX8_read 24 = .ok (.ifCond .eq 10, 3) := by decide +kernel
theorem dX8_read_27 : decode cX8_read 27 = .ok (.aload_n 0, 1) := by decide +kernel
theorem dX8_read_28 : decode cX8_read 28 = .ok (.iload 4, 2) := by decide +kernel
theorem dX8_read_30 : decode cX8_read 30 = .ok (.invokevirtual 143, 3) := by decide +kernel
theorem dX8_read_33 : decode cX8_read 33 = .ok (.ireturn, 1) := by decide +kernel
theorem dX8_read_34 : decode cX8_read 34 = .ok (.aload_n 0, 1) := by decide +kernel
theorem dX8_read_35 : decode cX8_read 35 = .ok (.iload_n 2, 1) := by decide +kernel
theorem dX8_read_36 : decode cX8_read 36 = .ok (.ifCond .eq 20, 3) := by decide +kernel
theorem dX8_read_39 : decode cX8_read 39 = .ok (.aload_n 0, 1) := by decide +kernel
theorem dX8_read_40 : decode cX8_read 40 = .ok (.getfield 56, 3) := by decide +kernel
theorem dX8_read_43 : decode cX8_read 43 = .ok (.bipush 16, 2) := by decide +kernel
theorem dX8_read_45 : decode cX8_read 45 = .ok (.iload_n 1, 1) := by decide +kernel
theorem dX8_read_46 : decode cX8_read 46 = .ok (.imul, 1) := by decide +kernel
theorem dX8_read_47 : decode cX8_read 47 = .ok (.iload_n 3, 1) := by decide +kernel
theorem dX8_read_48 : decode cX8_read 48 = .ok (.iadd, 1) := by decide +kernel
theorem dX8_read_49 : decode cX8_read 49 = .ok (.daload, 1) := by decide +kernel
theorem dX8_read_50 : decode cX8_read 50 = .ok (.invokestatic 148, 3) := by decide +kernel
theorem dX8_read_53 : decode cX8_read 53 = .ok (.goto 18, 3) := by decide +kernel
theorem dX8_read_56 : decode cX8_read 56 = .ok (.aload_n 0, 1) := by decide +kernel
theorem dX8_read_57 : decode cX8_read 57 = .ok (.getfield 53, 3) := by decide +kernel
theorem dX8_read_60 : decode cX8_read 60 = .ok (.bipush 16, 2) := by decide +kernel
theorem dX8_read_62 : decode cX8_read 62 = .ok (.iload_n 1, 1) := by decide +kernel
theorem dX8_read_63 : decode cX8_read 63 = .ok (.imul, 1) := by decide +kernel
theorem dX8_read_64 : decode cX8_read 64 = .ok (.iload_n 3, 1) := by decide +kernel
theorem dX8_read_65 : decode cX8_read 65 = .ok (.iadd, 1) := by decide +kernel
theorem dX8_read_66 : decode cX8_read 66 = .ok (.faload, 1) := by decide +kernel
theorem dX8_read_67 : decode cX8_read 67 = .ok (.invokestatic 152, 3) := by decide +kernel
theorem dX8_read_70 : decode cX8_read 70 = .ok (.i2l, 1) := by decide +kernel
theorem dX8_read_71 : decode cX8_read 71 = .ok (.putfield 202, 3) := by decide +kernel
theorem dX8_read_74 : decode cX8_read 74 = .ok (.aload_n 0, 1) := by decide +kernel
theorem dX8_read_75 : decode cX8_read 75 = .ok (.iconst 1, 1) := by decide +kernel
theorem dX8_read_76 : decode cX8_read 76 = .ok (.invokevirtual 139, 3) := by decide +kernel
theorem dX8_read_79 : decode cX8_read 79 = .ok (.ireturn, 1) := by decide +kernel
theorem dX8_seen_0 : decode cX8_seen 0 = .ok (.aload_n 0, 1) := by decide +kernel
theorem dX8_seen_1 : decode cX8_seen 1 = .ok (.getfield 202, 3) := by decide +kernel
theorem dX8_seen_4 : decode cX8_seen 4 = .ok (.lreturn, 1) := by decide +kernel
set_option maxRecDepth 20000 in
theorem ggX8_note_X8_isLog : GoodIn wsX8_note wsX8_isLog := goodIn_r _ [9, 10, 11, 12, 8, 13] (by decide +kernel) (by decide +kernel)
set_option maxRecDepth 20000 in
theorem gX8_note_X8_isLog : GoodIn wsX8_note (va_wsS RX8 188 yX8_isLog wsX8_isLog) := goodIn_app (goodIn_of _ (by decide +kernel)) ggX8_note_X8_isLog
set_option maxRecDepth 20000 in
theorem ggX8_note_X8_isDial : GoodIn wsX8_note wsX8_isDial := goodIn_r _ [17, 18, 11, 12, 8, 13, 37, 38, 39, 40, 41, 42, 43, 44, 45, 46, 47, 48, 49, 50, 51, 52, 53, 54, 55, 56] (by decide +kernel) (by decide +kernel)
set_option maxRecDepth 20000 in
theorem gX8_note_X8_isDial : GoodIn wsX8_note (wsV RX8 131 RX8 yX8_isDial wsX8_isDial) := goodIn_app (goodIn_of _ (by decide +kernel)) ggX8_note_X8_isDial
set_option maxRecDepth 20000 in
theorem ggX8_note_X8_rowOf : GoodIn wsX8_note wsX8_rowOf := goodIn_r _ [21] (by decide +kernel) (by decide +kernel)
set_option maxRecDepth 20000 in
theorem gX8_note_X8_rowOf : GoodIn wsX8_note (va_wsS RX8 195 yX8_rowOf wsX8_rowOf) := goodIn_app (goodIn_of _ (by decide +kernel)) ggX8_note_X8_rowOf
set_option maxRecDepth 20000 in
theorem ggX8_note_X8_cause : GoodIn wsX8_note wsX8_cause := goodIn_r _ [25, 26, 11, 12, 8, 13, 37, 38, 39, 40, 41, 42, 43, 44, 45, 46, 47, 48, 49, 50, 51, 52, 53, 54, 55, 56] (by decide +kernel) (by decide +kernel)
set_option maxRecDepth 20000 in
theorem gX8_note_X8_cause : GoodIn wsX8_note (wsV RX8 199 RX8 yX8_cause wsX8_cause) := goodIn_app (goodIn_of _ (by decide +kernel)) ggX8_note_X8_cause
set_option maxRecDepth 20000 in
theorem ggX8_note_X8_fails : GoodIn wsX8_note wsX8_fails := goodIn_r _ [30, 31, 32, 37, 38, 39, 40, 41, 42, 43, 44, 45, 46, 47, 48, 49, 50, 51, 52, 53, 54, 55, 56] (by decide +kernel) (by decide +kernel)
set_option maxRecDepth 20000 in
theorem gX8_note_X8_fails : GoodIn wsX8_note (wsV RX8 143 RX8 yX8_fails wsX8_fails) := goodIn_app (goodIn_of _ (by decide +kernel)) ggX8_note_X8_fails
set_option maxRecDepth 20000 in
theorem ggX8_note_X8_done : GoodIn wsX8_note wsX8_done := goodIn_r _ [36, 31, 37, 38, 39, 40, 41, 42, 43, 44, 45, 46, 47, 48, 49, 50, 51, 52, 53, 54, 55, 56] (by decide +kernel) (by decide +kernel)
set_option maxRecDepth 20000 in
theorem gX8_note_X8_done : GoodIn wsX8_note (wsV RX8 139 RX8 yX8_done wsX8_done) := goodIn_app (goodIn_of _ (by decide +kernel)) ggX8_note_X8_done
theorem dX8_note_0 : decode cX8_note 0 = .ok (.iload_n 1, 1) := by decide +kernel
theorem dX8_note_1 : decode cX8_note 1 = .ok (.invokestatic 188, 3) := by decide +kernel
theorem dX8_note_4 : decode cX8_note 4 = .ok (.ifCond .eq 12, 3) := by decide +kernel
theorem dX8_note_7 : decode cX8_note 7 = .ok (.aload_n 0, 1) := by decide +kernel
theorem dX8_note_8 : decode cX8_note 8 = .ok (.iload 4, 2) := by decide +kernel
theorem dX8_note_10 : decode cX8_note 10 = .ok (.invokevirtual 131, 3) := by decide +kernel
theorem dX8_note_13 : decode cX8_note 13 = .ok (.ifCond .ne 6, 3) := by decide +kernel
theorem dX8_note_16 : decode cX8_note 16 = .ok (.bipush (-101), 2) := by decide +kernel
theorem dX8_note_18 : decode cX8_note 18 = .ok (.ireturn, 1) := by decide +kernel
theorem dX8_note_19 : decode cX8_note 19 = .ok (.aload_n 0, 1) := by decide +kernel
theorem dX8_note_20 : decode cX8_note 20 = .ok (.iload_n 1, 1) := by decide +kernel
theorem dX8_note_21 : decode cX8_note 21 = .ok (.iload_n 2, 1) := by decide +kernel
theorem dX8_note_22 : decode cX8_note 22 = .ok (.invokestatic 195, 3) := by decide +kernel
theorem dX8_note_25 : decode cX8_note 25 = .ok (.iload_n 3, 1) := by decide +kernel
theorem dX8_note_26 : decode cX8_note 26 = .ok (.invokevirtual 199, 3) := by decide +kernel
theorem dX8_note_29 : decode cX8_note 29 = .ok (.istore 5, 2) := by decide +kernel
theorem dX8_note_31 : decode cX8_note 31 = .ok (.iload 5, 2) := by decide +kernel
theorem dX8_note_33 : decode cX8_note 33 = .ok (.ifCond .eq 10, 3) := by decide +kernel
theorem dX8_note_36 : decode cX8_note 36 = .ok (.aload_n 0, 1) := by decide +kernel
theorem dX8_note_37 : decode cX8_note 37 = .ok (.iload 5, 2) := by decide +kernel
theorem dX8_note_39 : decode cX8_note 39 = .ok (.invokevirtual 143, 3) := by decide +kernel
theorem dX8_note_42 : decode cX8_note 42 = .ok (.ireturn, 1) := by decide +kernel
theorem dX8_note_43 : decode cX8_note 43 = .ok (.iload_n 2, 1) := by decide +kernel
theorem dX8_note_44 : decode cX8_note 44 = .ok (.ifCond .eq 45, 3) := by decide +kernel
theorem dX8_note_47 : decode cX8_note 47 = .ok (.aload_n 0, 1) := by decide +kernel
theorem dX8_note_48 : decode cX8_note 48 = .ok (.getfield 56, 3) := by decide +kernel
theorem dX8_note_51 : decode cX8_note 51 = .ok (.bipush 16, 2) := by decide +kernel
theorem dX8_note_53 : decode cX8_note 53 = .ok (.iload_n 1, 1) := by decide +kernel
theorem dX8_note_54 : decode cX8_note 54 = .ok (.imul, 1) := by decide +kernel
theorem dX8_note_55 : decode cX8_note 55 = .ok (.iload_n 3, 1) := by decide +kernel
theorem dX8_note_56 : decode cX8_note 56 = .ok (.iadd, 1) := by decide +kernel
theorem dX8_note_57 : decode cX8_note 57 = .ok (.aload_n 0, 1) := by decide +kernel
theorem dX8_note_58 : decode cX8_note 58 = .ok (.getfield 7, 3) := by decide +kernel
theorem dX8_note_61 : decode cX8_note 61 = .ok (.iload 4, 2) := by decide +kernel
theorem dX8_note_63 : decode cX8_note 63 = .ok (.baload, 1) := by decide +kernel
theorem dX8_note_64 : decode cX8_note 64 = .ok (.ifCond .eq 13, 3) := by decide +kernel
theorem dX8_note_67 : decode cX8_note 67 = .ok (.aload_n 0, 1) := by decide +kernel
theorem dX8_note_68 : decode cX8_note 68 = .ok (.getfield 24, 3) := by decide +kernel
theorem dX8_note_71 : decode cX8_note 71 = .ok (.iload 4, 2) := by decide +kernel
theorem dX8_note_73 : decode cX8_note 73 = .ok (.daload, 1) := by decide +kernel
theorem dX8_note_74 : decode cX8_note 74 = .ok (.goto 11, 3) := by decide +kernel
theorem dX8_note_77 : decode cX8_note 77 = .ok (.aload_n 0, 1) := by decide +kernel
theorem dX8_note_78 : decode cX8_note 78 = .ok (.getfield 17, 3) := by decide +kernel
theorem dX8_note_81 : decode cX8_note 81 = .ok (.iload 4, 2) := by decide +kernel
theorem dX8_note_83 : decode cX8_note 83 = .ok (.faload, 1) := by decide +kernel
theorem dX8_note_84 : decode cX8_note 84 = .ok (.f2d, 1) := by decide +kernel
theorem dX8_note_85 : decode cX8_note 85 = .ok (.dastore, 1) := by decide +kernel
theorem dX8_note_86 : decode cX8_note 86 = .ok (.goto 42, 3) := by decide +kernel
theorem dX8_note_89 : decode cX8_note 89 = .ok (.aload_n 0, 1) := by decide +kernel
theorem dX8_note_90 : decode cX8_note 90 = .ok (.getfield 53, 3) := by decide +kernel
theorem dX8_note_93 : decode cX8_note 93 = .ok (.bipush 16, 2) := by decide +kernel
theorem dX8_note_95 : decode cX8_note 95 = .ok (.iload_n 1, 1) := by decide +kernel
theorem dX8_note_96 : decode cX8_note 96 = .ok (.imul, 1) := by decide +kernel
theorem dX8_note_97 : decode cX8_note 97 = .ok (.iload_n 3, 1) := by decide +kernel
theorem dX8_note_98 : decode cX8_note 98 = .ok (.iadd, 1) := by decide +kernel
theorem dX8_note_99 : decode cX8_note 99 = .ok (.aload_n 0, 1) := by decide +kernel
theorem dX8_note_100 : decode cX8_note 100 = .ok (.getfield 7, 3) := by decide +kernel
theorem dX8_note_103 : decode cX8_note 103 = .ok (.iload 4, 2) := by decide +kernel
theorem dX8_note_105 : decode cX8_note 105 = .ok (.baload, 1) := by decide +kernel
theorem dX8_note_106 : decode cX8_note 106 = .ok (.ifCond .eq 14, 3) := by decide +kernel
theorem dX8_note_109 : decode cX8_note 109 = .ok (.aload_n 0, 1) := by decide +kernel
theorem dX8_note_110 : decode cX8_note 110 = .ok (.getfield 24, 3) := by decide +kernel
theorem dX8_note_113 : decode cX8_note 113 = .ok (.iload 4, 2) := by decide +kernel
theorem dX8_note_115 : decode cX8_note 115 = .ok (.daload, 1) := by decide +kernel
theorem dX8_note_116 : decode cX8_note 116 = .ok (.d2f, 1) := by decide +kernel
theorem dX8_note_117 : decode cX8_note 117 = .ok (.goto 10, 3) := by decide +kernel
theorem dX8_note_120 : decode cX8_note 120 = .ok (.aload_n 0, 1) := by decide +kernel
theorem dX8_note_121 : decode cX8_note 121 = .ok (.getfield 17, 3) := by decide +kernel
theorem dX8_note_124 : decode cX8_note 124 = .ok (.iload 4, 2) := by decide +kernel
theorem dX8_note_126 : decode cX8_note 126 = .ok (.faload, 1) := by decide +kernel
theorem dX8_note_127 : decode cX8_note 127 = .ok (.fastore, 1) := by decide +kernel
theorem dX8_note_128 : decode cX8_note 128 = .ok (.aload_n 0, 1) := by decide +kernel
theorem dX8_note_129 : decode cX8_note 129 = .ok (.iconst 1, 1) := by decide +kernel
theorem dX8_note_130 : decode cX8_note 130 = .ok (.invokevirtual 139, 3) := by decide +kernel
theorem dX8_note_133 : decode cX8_note 133 = .ok (.ireturn, 1) := by decide +kernel
set_option maxRecDepth 20000 in
theorem ggX8_recall_X8_isLog : GoodIn wsX8_recall wsX8_isLog := goodIn_r _ [11, 12, 13, 14, 10, 15] (by decide +kernel) (by decide +kernel)
set_option maxRecDepth 20000 in
theorem gX8_recall_X8_isLog : GoodIn wsX8_recall (va_wsS RX8 188 yX8_isLog wsX8_isLog) := goodIn_app (goodIn_of _ (by decide +kernel)) ggX8_recall_X8_isLog
set_option maxRecDepth 20000 in
theorem ggX8_recall_X8_isDial : GoodIn wsX8_recall wsX8_isDial := goodIn_r _ [19, 20, 13, 14, 10, 15, 49, 50, 51, 52, 53, 54, 55, 56, 57, 58, 59, 60, 61, 62, 63, 64, 65, 66, 67, 68] (by decide +kernel) (by decide +kernel)
set_option maxRecDepth 20000 in
theorem gX8_recall_X8_isDial : GoodIn wsX8_recall (wsV RX8 131 RX8 yX8_isDial wsX8_isDial) := goodIn_app (goodIn_of _ (by decide +kernel)) ggX8_recall_X8_isDial
set_option maxRecDepth 20000 in
theorem ggX8_recall_X8_rowOf : GoodIn wsX8_recall wsX8_rowOf := goodIn_r _ [23] (by decide +kernel) (by decide +kernel)
set_option maxRecDepth 20000 in
theorem gX8_recall_X8_rowOf : GoodIn wsX8_recall (va_wsS RX8 195 yX8_rowOf wsX8_rowOf) := goodIn_app (goodIn_of _ (by decide +kernel)) ggX8_recall_X8_rowOf
set_option maxRecDepth 20000 in
theorem ggX8_recall_X8_cause : GoodIn wsX8_recall wsX8_cause := goodIn_r _ [27, 28, 13, 14, 10, 15, 49, 50, 51, 52, 53, 54, 55, 56, 57, 58, 59, 60, 61, 62, 63, 64, 65, 66, 67, 68] (by decide +kernel) (by decide +kernel)
set_option maxRecDepth 20000 in
theorem gX8_recall_X8_cause : GoodIn wsX8_recall (wsV RX8 199 RX8 yX8_cause wsX8_cause) := goodIn_app (goodIn_of _ (by decide +kernel)) ggX8_recall_X8_cause
set_option maxRecDepth 20000 in
theorem ggX8_recall_X8_fails : GoodIn wsX8_recall wsX8_fails := goodIn_r _ [32, 33, 34, 49, 50, 51, 52, 53, 54, 55, 56, 57, 58, 59, 60, 61, 62, 63, 64, 65, 66, 67, 68] (by decide +kernel) (by decide +kernel)
set_option maxRecDepth 20000 in
theorem gX8_recall_X8_fails : GoodIn wsX8_recall (wsV RX8 143 RX8 yX8_fails wsX8_fails) := goodIn_app (goodIn_of _ (by decide +kernel)) ggX8_recall_X8_fails
set_option maxRecDepth 20000 in
theorem ggX8_recall_X8_isEndless : GoodIn wsX8_recall wsX8_isEndless := goodIn_r _ [37, 38, 39] (by decide +kernel) (by decide +kernel)
set_option maxRecDepth 20000 in
theorem gX8_recall_X8_isEndless : GoodIn wsX8_recall (va_wsS RX8 119 yX8_isEndless wsX8_isEndless) := goodIn_app (goodIn_of _ (by decide +kernel)) ggX8_recall_X8_isEndless
set_option maxRecDepth 20000 in
theorem ggX8_recall_X8_isEndlessFloat : GoodIn wsX8_recall wsX8_isEndlessFloat := goodIn_r _ [42, 43, 44] (by decide +kernel) (by decide +kernel)
set_option maxRecDepth 20000 in
theorem gX8_recall_X8_isEndlessFloat : GoodIn wsX8_recall (va_wsS RX8 115 yX8_isEndlessFloat wsX8_isEndlessFloat) := goodIn_app (goodIn_of _ (by decide +kernel)) ggX8_recall_X8_isEndlessFloat
set_option maxRecDepth 20000 in
theorem ggX8_recall_X8_done : GoodIn wsX8_recall wsX8_done := goodIn_r _ [48, 33, 49, 50, 51, 52, 53, 54, 55, 56, 57, 58, 59, 60, 61, 62, 63, 64, 65, 66, 67, 68] (by decide +kernel) (by decide +kernel)
set_option maxRecDepth 20000 in
theorem gX8_recall_X8_done : GoodIn wsX8_recall (wsV RX8 139 RX8 yX8_done wsX8_done) := goodIn_app (goodIn_of _ (by decide +kernel)) ggX8_recall_X8_done
theorem dX8_recall_0 : decode cX8_recall 0 = .ok (.iload_n 1, 1) := by decide +kernel
theorem dX8_recall_1 : decode cX8_recall 1 = .ok (.invokestatic 188, 3) := by decide +kernel
theorem dX8_recall_4 : decode cX8_recall 4 = .ok (.ifCond .eq 12, 3) := by decide +kernel
theorem dX8_recall_7 : decode cX8_recall 7 = .ok (.aload_n 0, 1) := by decide +kernel
theorem dX8_recall_8 : decode cX8_recall 8 = .ok (.iload 4, 2) := by decide +kernel
theorem dX8_recall_10 : decode cX8_recall 10 = .ok (.invokevirtual 131, 3) := by decide +kernel
theorem dX8_recall_13 : decode cX8_recall 13 = .ok (.ifCond .ne 6, 3) := by decide +kernel
theorem dX8_recall_16 : decode cX8_recall 16 = .ok (.bipush (-101), 2) := by decide +kernel
theorem dX8_recall_18 : decode cX8_recall 18 = .ok (.ireturn, 1) := by decide +kernel
theorem dX8_recall_19 : decode cX8_recall 19 = .ok (.aload_n 0, 1) := by decide +kernel
theorem dX8_recall_20 : decode cX8_recall 20 = .ok (.iload_n 1, 1) := by decide +kernel
theorem dX8_recall_21 : decode cX8_recall 21 = .ok (.iload_n 2, 1) := by decide +kernel
theorem dX8_recall_22 : decode cX8_recall 22 = .ok (.invokestatic 195, 3) := by decide +kernel
theorem dX8_recall_25 : decode cX8_recall 25 = .ok (.iload_n 3, 1) := by decide +kernel
theorem dX8_recall_26 : decode cX8_recall 26 = .ok (.invokevirtual 199, 3) := by decide +kernel
theorem dX8_recall_29 : decode cX8_recall 29 = .ok (.istore 5, 2) := by decide +kernel
theorem dX8_recall_31 : decode cX8_recall 31 = .ok (.iload 5, 2) := by decide +kernel
theorem dX8_recall_33 : decode cX8_recall 33 = .ok (.ifCond .eq 10, 3) := by decide +kernel
theorem dX8_recall_36 : decode cX8_recall 36 = .ok (.aload_n 0, 1) := by decide +kernel
theorem dX8_recall_37 : decode cX8_recall 37 = .ok (.iload 5, 2) := by decide +kernel
theorem dX8_recall_39 : decode cX8_recall 39 = .ok (.invokevirtual 143, 3) := by decide +kernel
theorem dX8_recall_42 : decode cX8_recall 42 = .ok (.ireturn, 1) := by decide +kernel
theorem dX8_recall_43 : decode cX8_recall 43 = .ok (.iload_n 2, 1) := by decide +kernel
theorem dX8_recall_44 : decode cX8_recall 44 = .ok (.ifCond .eq 17, 3) := by decide +kernel
theorem dX8_recall_47 : decode cX8_recall 47 = .ok (.aload_n 0, 1) := by decide +kernel
theorem dX8_recall_48 : decode cX8_recall 48 = .ok (.getfield 56, 3) := by decide +kernel
theorem dX8_recall_51 : decode cX8_recall 51 = .ok (.bipush 16, 2) := by decide +kernel
theorem dX8_recall_53 : decode cX8_recall 53 = .ok (.iload_n 1, 1) := by decide +kernel
theorem dX8_recall_54 : decode cX8_recall 54 = .ok (.imul, 1) := by decide +kernel
theorem dX8_recall_55 : decode cX8_recall 55 = .ok (.iload_n 3, 1) := by decide +kernel
theorem dX8_recall_56 : decode cX8_recall 56 = .ok (.iadd, 1) := by decide +kernel
theorem dX8_recall_57 : decode cX8_recall 57 = .ok (.daload, 1) := by decide +kernel
theorem dX8_recall_58 : decode cX8_recall 58 = .ok (.goto 15, 3) := by decide +kernel
theorem dX8_recall_61 : decode cX8_recall 61 = .ok (.aload_n 0, 1) := by decide +kernel
theorem dX8_recall_62 : decode cX8_recall 62 = .ok (.getfield 53, 3) := by decide +kernel
theorem dX8_recall_65 : decode cX8_recall 65 = .ok (.bipush 16, 2) := by decide +kernel
theorem dX8_recall_67 : decode cX8_recall 67 = .ok (.iload_n 1, 1) := by decide +kernel
theorem dX8_recall_68 : decode cX8_recall 68 = .ok (.imul, 1) := by decide +kernel
theorem dX8_recall_69 : decode cX8_recall 69 = .ok (.iload_n 3, 1) := by decide +kernel
theorem dX8_recall_70 : decode cX8_recall 70 = .ok (.iadd, 1) := by decide +kernel
theorem dX8_recall_71 : decode cX8_recall 71 = .ok (.faload, 1) := by decide +kernel
theorem dX8_recall_72 : decode cX8_recall 72 = .ok (.f2d, 1) := by decide +kernel
theorem dX8_recall_73 : decode cX8_recall 73 = .ok (.dstore 6, 2) := by decide +kernel
theorem dX8_recall_75 : decode cX8_recall 75 = .ok (.dload 6, 2) := by decide +kernel
theorem dX8_recall_77 : decode cX8_recall 77 = .ok (.d2f, 1) := by decide +kernel
theorem dX8_recall_78 : decode cX8_recall 78 = .ok (.fstore 8, 2) := by decide +kernel
theorem dX8_recall_80 : decode cX8_recall 80 = .ok (.dload 6, 2) := by decide +kernel
theorem dX8_recall_82 : decode cX8_recall 82 = .ok (.invokestatic 119, 3) := by decide +kernel
theorem dX8_recall_85 : decode cX8_recall 85 = .ok (.ifCond .ne 21, 3) := by decide +kernel
theorem dX8_recall_88 : decode cX8_recall 88 = .ok (.aload_n 0, 1) := by decide +kernel
theorem dX8_recall_89 : decode cX8_recall 89 = .ok (.getfield 7, 3) := by decide +kernel
theorem dX8_recall_92 : decode cX8_recall 92 = .ok (.iload 4, 2) := by decide +kernel
theorem dX8_recall_94 : decode cX8_recall 94 = .ok (.baload, 1) := by decide +kernel
theorem dX8_recall_95 : decode cX8_recall 95 = .ok (.ifCond .ne 18, 3) := by decide +kernel
theorem dX8_recall_98 : decode cX8_recall 98 = .ok (.fload 8, 2) := by decide +kernel
theorem dX8_recall_100 : decode cX8_recall 100 = .ok (.invokestatic 115, 3) := by decide +kernel
theorem dX8_recall_103 : decode cX8_recall 103 = .ok (.ifCond .eq 10, 3) := by decide +kernel
theorem dX8_recall_106 : decode cX8_recall 106 = .ok (.aload_n 0, 1) := by decide +kernel
theorem dX8_recall_107 : decode cX8_recall 107 = .ok (.bipush (-15), 2) := by decide +kernel
theorem dX8_recall_109 : decode cX8_recall 109 = .ok (.invokevirtual 143, 3) := by decide +kernel
theorem dX8_recall_112 : decode cX8_recall 112 = .ok (.ireturn, 1) := by decide +kernel
theorem dX8_recall_113 : decode cX8_recall 113 = .ok (.aload_n 0, 1) := by decide +kernel
theorem dX8_recall_114 : decode cX8_recall 114 = .ok (.getfield 7, 3) := by decide +kernel
theorem dX8_recall_117 : decode cX8_recall 117 = .ok (.iload 4, 2) := by decide +kernel
theorem dX8_recall_119 : decode cX8_recall 119 = .ok (.baload, 1) := by decide +kernel
theorem dX8_recall_120 : decode cX8_recall 120 = .ok (.ifCond .eq 23, 3) := by decide +kernel
theorem dX8_recall_123 : decode cX8_recall 123 = .ok (.aload_n 0, 1) := by decide +kernel
theorem dX8_recall_124 : decode cX8_recall 124 = .ok (.getfield 24, 3) := by decide +kernel
theorem dX8_recall_127 : decode cX8_recall 127 = .ok (.iload 4, 2) := by decide +kernel
theorem dX8_recall_129 : decode cX8_recall 129 = .ok (.dload 6, 2) := by decide +kernel
theorem dX8_recall_131 : decode cX8_recall 131 = .ok (.aload_n 0, 1) := by decide +kernel
theorem dX8_recall_132 : decode cX8_recall 132 = .ok (.getfield 20, 3) := by decide +kernel
theorem dX8_recall_135 : decode cX8_recall 135 = .ok (.iload 4, 2) := by decide +kernel
theorem dX8_recall_137 : decode cX8_recall 137 = .ok (.daload, 1) := by decide +kernel
theorem dX8_recall_138 : decode cX8_recall 138 = .ok (.drem, 1) := by decide +kernel
theorem dX8_recall_139 : decode cX8_recall 139 = .ok (.dastore, 1) := by decide +kernel
theorem dX8_recall_140 : decode cX8_recall 140 = .ok (.goto 20, 3) := by decide +kernel
theorem dX8_recall_143 : decode cX8_recall 143 = .ok (.aload_n 0, 1) := by decide +kernel
theorem dX8_recall_144 : decode cX8_recall 144 = .ok (.getfield 17, 3) := by decide +kernel
theorem dX8_recall_147 : decode cX8_recall 147 = .ok (.iload 4, 2) := by decide +kernel
theorem dX8_recall_149 : decode cX8_recall 149 = .ok (.fload 8, 2) := by decide +kernel
theorem dX8_recall_151 : decode cX8_recall 151 = .ok (.aload_n 0, 1) := by decide +kernel
theorem dX8_recall_152 : decode cX8_recall 152 = .ok (.getfield 13, 3) := by decide +kernel
theorem dX8_recall_155 : decode cX8_recall 155 = .ok (.iload 4, 2) := by decide +kernel
theorem dX8_recall_157 : decode cX8_recall 157 = .ok (.faload, 1) := by decide +kernel
theorem dX8_recall_158 : decode cX8_recall 158 = .ok (.frem, 1) := by decide +kernel
theorem dX8_recall_159 : decode cX8_recall 159 = .ok (.fastore, 1) := by decide +kernel
theorem dX8_recall_160 : decode cX8_recall 160 = .ok (.aload_n 0, 1) := by decide +kernel
theorem dX8_recall_161 : decode cX8_recall 161 = .ok (.iconst 1, 1) := by decide +kernel
theorem dX8_recall_162 : decode cX8_recall 162 = .ok (.invokevirtual 139, 3) := by decide +kernel
theorem dX8_recall_165 : decode cX8_recall 165 = .ok (.ireturn, 1) := by decide +kernel
set_option maxRecDepth 20000 in
theorem ggX8_sift_X8_isLog : GoodIn wsX8_sift wsX8_isLog := goodIn_r _ [8, 9, 10, 11, 7, 12] (by decide +kernel) (by decide +kernel)
set_option maxRecDepth 20000 in
theorem gX8_sift_X8_isLog : GoodIn wsX8_sift (va_wsS RX8 188 yX8_isLog wsX8_isLog) := goodIn_app (goodIn_of _ (by decide +kernel)) ggX8_sift_X8_isLog
set_option maxRecDepth 20000 in
theorem ggX8_sift_X8_isFit : GoodIn wsX8_sift wsX8_isFit := goodIn_r _ [15, 16, 17, 7, 18, 19, 20, 21, 22, 23] (by decide +kernel) (by decide +kernel)
set_option maxRecDepth 20000 in
theorem gX8_sift_X8_isFit : GoodIn wsX8_sift (va_wsS RX8 104 yX8_isFit wsX8_isFit) := goodIn_app (goodIn_of _ (by decide +kernel)) ggX8_sift_X8_isFit
set_option maxRecDepth 20000 in
theorem ggX8_sift_X8_rowOf : GoodIn wsX8_sift wsX8_rowOf := goodIn_r _ [26] (by decide +kernel) (by decide +kernel)
set_option maxRecDepth 20000 in
theorem gX8_sift_X8_rowOf : GoodIn wsX8_sift (va_wsS RX8 195 yX8_rowOf wsX8_rowOf) := goodIn_app (goodIn_of _ (by decide +kernel)) ggX8_sift_X8_rowOf
set_option maxRecDepth 20000 in
theorem ggX8_sift_X8_fails : GoodIn wsX8_sift wsX8_fails := goodIn_r _ [30, 31, 32, 73, 74, 75, 76, 77, 78, 79, 80, 81, 82, 83, 84, 85, 86, 87, 88, 89, 90, 91, 92] (by decide +kernel) (by decide +kernel)
set_option maxRecDepth 20000 in
theorem gX8_sift_X8_fails : GoodIn wsX8_sift (wsV RX8 143 RX8 yX8_fails wsX8_fails) := goodIn_app (goodIn_of _ (by decide +kernel)) ggX8_sift_X8_fails
set_option maxRecDepth 20000 in
theorem ggX8_sift_X8_floatOf : GoodIn wsX8_sift wsX8_floatOf := goodIn_r _ [35, 36, 37, 38, 39] (by decide +kernel) (by decide +kernel)
set_option maxRecDepth 20000 in
theorem gX8_sift_X8_floatOf : GoodIn wsX8_sift (va_wsS RX8 111 yX8_floatOf wsX8_floatOf) := goodIn_app (goodIn_of _ (by decide +kernel)) ggX8_sift_X8_floatOf
set_option maxRecDepth 20000 in
theorem ggX8_sift_X8_doubleOf : GoodIn wsX8_sift wsX8_doubleOf := goodIn_r _ [42, 43, 44, 45, 46] (by decide +kernel) (by decide +kernel)
set_option maxRecDepth 20000 in
theorem gX8_sift_X8_doubleOf : GoodIn wsX8_sift (va_wsS RX8 108 yX8_doubleOf wsX8_doubleOf) := goodIn_app (goodIn_of _ (by decide +kernel)) ggX8_sift_X8_doubleOf
set_option maxRecDepth 20000 in
theorem ggX8_sift_Jxe99ae_doubleToLongBits_ccdee : GoodIn wsX8_sift wsJxe99ae_doubleToLongBits_ccdee := goodIn_r _ [50, 51, 52, 53, 46, 54, 55, 56, 49, 57] (by decide +kernel) (by decide +kernel)
set_option maxRecDepth 20000 in
theorem gX8_sift_Jxe99ae_doubleToLongBits_ccdee : GoodIn wsX8_sift (va_wsS RX8 148 yJxe99ae_doubleToLongBits_ccdee wsJxe99ae_doubleToLongBits_ccdee) := goodIn_app (goodIn_of _ (by decide +kernel)) ggX8_sift_Jxe99ae_doubleToLongBits_ccdee
set_option maxRecDepth 20000 in
theorem ggX8_sift_Jxf58ca_floatToIntBits_5c35a : GoodIn wsX8_sift wsJxf58ca_floatToIntBits_5c35a := goodIn_r _ [61, 62, 63, 64, 39, 65, 66, 67, 60, 68] (by decide +kernel) (by decide +kernel)
set_option maxRecDepth 20000 in
theorem gX8_sift_Jxf58ca_floatToIntBits_5c35a : GoodIn wsX8_sift (va_wsS RX8 152 yJxf58ca_floatToIntBits_5c35a wsJxf58ca_floatToIntBits_5c35a) := goodIn_app (goodIn_of _ (by decide +kernel)) ggX8_sift_Jxf58ca_floatToIntBits_5c35a
set_option maxRecDepth 20000 in
theorem ggX8_sift_X8_done : GoodIn wsX8_sift wsX8_done := goodIn_r _ [72, 31, 73, 74, 75, 76, 77, 78, 79, 80, 81, 82, 83, 84, 85, 86, 87, 88, 89, 90, 91, 92] (by decide +kernel) (by decide +kernel)
set_option maxRecDepth 20000 in
theorem gX8_sift_X8_done : GoodIn wsX8_sift (wsV RX8 139 RX8 yX8_done wsX8_done) := goodIn_app (goodIn_of _ (by decide +kernel)) ggX8_sift_X8_done
theorem dX8_sift_0 : decode cX8_sift 0 = .ok (.iload_n 1, 1) := by decide +kernel
theorem dX8_sift_1 : decode cX8_sift 1 = .ok (.invokestatic 188, 3) := by decide +kernel
theorem dX8_sift_4 : decode cX8_sift 4 = .ok (.ifCond .ne 6, 3) := by decide +kernel
theorem dX8_sift_7 : decode cX8_sift 7 = .ok (.bipush (-101), 2) := by decide +kernel
theorem dX8_sift_9 : decode cX8_sift 9 = .ok (.ireturn, 1) := by decide +kernel
theorem dX8_sift_10 : decode cX8_sift 10 = .ok (.iload_n 2, 1) := by decide +kernel
theorem dX8_sift_11 : decode cX8_sift 11 = .ok (.lload_n 3, 1) := by decide +kernel
theorem dX8_sift_12 : decode cX8_sift 12 = .ok (.invokestatic 104, 3) := by decide +kernel
theorem dX8_sift_15 : decode cX8_sift 15 = .ok (.ifCond .ne 6, 3) := by decide +kernel
theorem dX8_sift_18 : decode cX8_sift 18 = .ok (.bipush (-102), 2) := by decide +kernel
theorem dX8_sift_20 : decode cX8_sift 20 = .ok (.ireturn, 1) := by decide +kernel
theorem dX8_sift_21 : decode cX8_sift 21 = .ok (.iload_n 1, 1) := by decide +kernel
theorem dX8_sift_22 : decode cX8_sift 22 = .ok (.iload_n 2, 1) := by decide +kernel
theorem dX8_sift_23 : decode cX8_sift 23 = .ok (.invokestatic 195, 3) := by decide +kernel
theorem dX8_sift_26 : decode cX8_sift 26 = .ok (.istore 5, 2) := by decide +kernel
theorem dX8_sift_28 : decode cX8_sift 28 = .ok (.aload_n 0, 1) := by decide +kernel
theorem dX8_sift_29 : decode cX8_sift 29 = .ok (.getfield 50, 3) := by decide +kernel
theorem dX8_sift_32 : decode cX8_sift 32 = .ok (.iload 5, 2) := by decide +kernel
theorem dX8_sift_34 : decode cX8_sift 34 = .ok (.iaload, 1) := by decide +kernel
theorem dX8_sift_35 : decode cX8_sift 35 = .ok (.iconst (-1), 1) := by decide +kernel
theorem dX8_sift_36 : decode cX8_sift 36 = .ok (.if_icmp .ne 10, 3) := by decide +kernel
theorem dX8_sift_39 : decode cX8_sift 39 = .ok (.aload_n 0, 1) := by decide +kernel
theorem dX8_sift_40 : decode cX8_sift 40 = .ok (.bipush (-11), 2) := by decide +kernel
theorem dX8_sift_42 : decode cX8_sift 42 = .ok (.invokevirtual 143, 3) := by decide +kernel
theorem dX8_sift_45 : decode cX8_sift 45 = .ok (.ireturn, 1) := by decide +kernel
theorem dX8_sift_46 : decode cX8_sift 46 = .ok (.iload_n 2, 1) := by decide +kernel
theorem dX8_sift_47 : decode cX8_sift 47 = .ok (.ifCond .eq 7, 3) := by decide +kernel
theorem dX8_sift_50 : decode cX8_sift 50 = .ok (.fconst 0, 1) := by decide +kernel
theorem dX8_sift_51 : decode cX8_sift 51 = .ok (.goto 7, 3) := by decide +kernel
theorem dX8_sift_54 : decode cX8_sift 54 = .ok (.lload_n 3, 1) := by decide +kernel
theorem dX8_sift_55 : decode cX8_sift 55 = .ok (.invokestatic 111, 3) := by decide +kernel
theorem dX8_sift_58 : decode cX8_sift 58 = .ok (.fstore 6, 2) := by decide +kernel
theorem dX8_sift_60 : decode cX8_sift 60 = .ok (.iload_n 2, 1) := by decide +kernel
theorem dX8_sift_61 : decode cX8_sift 61 = .ok (.ifCond .eq 10, 3) := by decide +kernel
theorem dX8_sift_64 : decode cX8_sift 64 = .ok (.lload_n 3, 1) := by decide +kernel
theorem dX8_sift_65 : decode cX8_sift 65 = .ok (.invokestatic 108, 3) := by decide +kernel
theorem dX8_sift_68 : decode cX8_sift 68 = .ok (.goto 4, 3) := by decide +kernel
theorem dX8_sift_71 : decode cX8_sift 71 = .ok (.dconst 0, 1) := by decide +kernel
theorem dX8_sift_72 : decode cX8_sift 72 = .ok (.dstore 7, 2) := by decide +kernel
theorem dX8_sift_74 : decode cX8_sift 74 = .ok (.iconst 0, 1) := by decide +kernel
theorem dX8_sift_75 : decode cX8_sift 75 = .ok (.istore 9, 2) := by decide +kernel
theorem dX8_sift_77 : decode cX8_sift 77 = .ok (.bipush 16, 2) := by decide +kernel
theorem dX8_sift_79 : decode cX8_sift 79 = .ok (.iload_n 1, 1) := by decide +kernel
theorem dX8_sift_80 : decode cX8_sift 80 = .ok (.imul, 1) := by decide +kernel
theorem dX8_sift_81 : decode cX8_sift 81 = .ok (.istore 10, 2) := by decide +kernel
theorem dX8_sift_83 : decode cX8_sift 83 = .ok (.iload 10, 2) := by decide +kernel
theorem dX8_sift_85 : decode cX8_sift 85 = .ok (.bipush 16, 2) := by decide +kernel
theorem dX8_sift_87 : decode cX8_sift 87 = .ok (.iload_n 1, 1) := by decide +kernel
theorem dX8_sift_88 : decode cX8_sift 88 = .ok (.imul, 1) := by decide +kernel
theorem dX8_sift_89 : decode cX8_sift 89 = .ok (.aload_n 0, 1) := by decide +kernel
theorem dX8_sift_90 : decode cX8_sift 90 = .ok (.getfield 50, 3) := by decide +kernel
theorem dX8_sift_93 : decode cX8_sift 93 = .ok (.iload 5, 2) := by decide +kernel
theorem dX8_sift_95 : decode cX8_sift 95 = .ok (.iaload, 1) := by decide +kernel
theorem dX8_sift_96 : decode cX8_sift 96 = .ok (.iadd, 1) := by decide +kernel
theorem dX8_sift_97 : decode cX8_sift 97 = .ok (.if_icmp .ge 108, 3) := by decide +kernel
theorem dX8_sift_100 : decode cX8_sift 100 = .ok (.iload_n 2, 1) := by decide +kernel
theorem dX8_sift_101 : decode cX8_sift 101 = .ok (.ifCond .eq 23, 3) := by decide +kernel
theorem dX8_sift_104 : decode cX8_sift 104 = .ok (.aload_n 0, 1) := by decide +kernel
theorem dX8_sift_105 : decode cX8_sift 105 = .ok (.getfield 56, 3) := by decide +kernel
theorem dX8_sift_108 : decode cX8_sift 108 = .ok (.iload 10, 2) := by decide +kernel
theorem dX8_sift_110 : decode cX8_sift 110 = .ok (.daload, 1) := by decide +kernel
theorem dX8_sift_111 : decode cX8_sift 111 = .ok (.dconst 0, 1) := by decide +kernel
theorem dX8_sift_112 : decode cX8_sift 112 = .ok (.dcmp .l, 1) := by decide +kernel
theorem dX8_sift_113 : decode cX8_sift 113 = .ok (.ifCond .eq 7, 3) := by decide +kernel
theorem dX8_sift_116 : decode cX8_sift 116 = .ok (.iconst 1, 1) := by decide +kernel
theorem dX8_sift_117 : decode cX8_sift 117 = .ok (.goto 24, 3) := by decide +kernel
theorem dX8_sift_120 : decode cX8_sift 120 = .ok (.iconst 0, 1) := by decide +kernel
theorem dX8_sift_121 : decode cX8_sift 121 = .ok (.goto 20, 3) := by decide +kernel
theorem dX8_sift_124 : decode cX8_sift 124 = .ok (.aload_n 0, 1) := by decide +kernel
theorem dX8_sift_125 : decode cX8_sift 125 = .ok (.getfield 53, 3) := by decide +kernel
theorem dX8_sift_128 : decode cX8_sift 128 = .ok (.iload 10, 2) := by decide +kernel
theorem dX8_sift_130 : decode cX8_sift 130 = .ok (.faload, 1) := by decide +kernel
theorem dX8_sift_131 : decode cX8_sift 131 = .ok (.fconst 0, 1) := by decide +kernel
theorem dX8_sift_132 : decode cX8_sift 132 = .ok (.fcmp .l, 1) := by decide +kernel
theorem dX8_sift_133 : decode cX8_sift 133 = .ok (.ifCond .eq 7, 3) := by decide +kernel
theorem dX8_sift_136 : decode cX8_sift 136 = .ok (.iconst 1, 1) := by decide +kernel
theorem dX8_sift_137 : decode cX8_sift 137 = .ok (.goto 4, 3) := by decide +kernel
theorem dX8_sift_140 : decode cX8_sift 140 = .ok (.iconst 0, 1) := by decide +kernel
theorem dX8_sift_141 : decode cX8_sift 141 = .ok (.istore 11, 2) := by decide +kernel
theorem dX8_sift_143 : decode cX8_sift 143 = .ok (.iload 9, 2) := by decide +kernel
theorem dX8_sift_145 : decode cX8_sift 145 = .ok (.iload 11, 2) := by decide +kernel
theorem dX8_sift_147 : decode cX8_sift 147 = .ok (.ifCond .eq 7, 3) := by decide +kernel
theorem dX8_sift_150 : decode cX8_sift 150 = .ok (.iconst 1, 1) := by decide +kernel
theorem dX8_sift_151 : decode cX8_sift 151 = .ok (.goto 4, 3) := by decide +kernel
theorem dX8_sift_154 : decode cX8_sift 154 = .ok (.iconst 0, 1) := by decide +kernel
theorem dX8_sift_155 : decode cX8_sift 155 = .ok (.iadd, 1) := by decide +kernel
theorem dX8_sift_156 : decode cX8_sift 156 = .ok (.istore 9, 2) := by decide +kernel
theorem dX8_sift_158 : decode cX8_sift 158 = .ok (.iload 11, 2) := by decide +kernel
theorem dX8_sift_160 : decode cX8_sift 160 = .ok (.ifCond .eq 22, 3) := by decide +kernel
theorem dX8_sift_163 : decode cX8_sift 163 = .ok (.iload_n 2, 1) := by decide +kernel
theorem dX8_sift_164 : decode cX8_sift 164 = .ok (.ifCond .eq 18, 3) := by decide +kernel
theorem dX8_sift_167 : decode cX8_sift 167 = .ok (.dload 7, 2) := by decide +kernel
theorem dX8_sift_169 : decode cX8_sift 169 = .ok (.aload_n 0, 1) := by decide +kernel
theorem dX8_sift_170 : decode cX8_sift 170 = .ok (.getfield 56, 3) := by decide +kernel
theorem dX8_sift_173 : decode cX8_sift 173 = .ok (.iload 10, 2) := by decide +kernel
theorem dX8_sift_175 : decode cX8_sift 175 = .ok (.daload, 1) := by decide +kernel
theorem dX8_sift_176 : decode cX8_sift 176 = .ok (.drem, 1) := by decide +kernel
theorem dX8_sift_177 : decode cX8_sift 177 = .ok (.dstore 7, 2) := by decide +kernel
theorem dX8_sift_179 : decode cX8_sift 179 = .ok (.goto 20, 3) := by decide +kernel
theorem dX8_sift_182 : decode cX8_sift 182 = .ok (.iload 11, 2) := by decide +kernel
theorem dX8_sift_184 : decode cX8_sift 184 = .ok (.ifCond .eq 15, 3) := by decide +kernel
theorem dX8_sift_187 : decode cX8_sift 187 = .ok (.fload 6, 2) := by decide +kernel
theorem dX8_sift_189 : decode cX8_sift 189 = .ok (.aload_n 0, 1) := by decide +kernel
theorem dX8_sift_190 : decode cX8_sift 190 = .ok (.getfield 53, 3) := by decide +kernel
theorem dX8_sift_193 : decode cX8_sift 193 = .ok (.iload 10, 2) := by decide +kernel
theorem dX8_sift_195 : decode cX8_sift 195 = .ok (.faload, 1) := by decide +kernel
theorem dX8_sift_196 : decode cX8_sift 196 = .ok (.frem, 1) := by decide +kernel
theorem dX8_sift_197 : decode cX8_sift 197 = .ok (.fstore 6, 2) := by decide +kernel
theorem dX8_sift_199 : decode cX8_sift 199 = .ok (.iinc 10 1, 3) := by decide +kernel
theorem dX8_sift_202 : decode cX8_sift 202 = .ok (.goto (-119), 3) := by decide +kernel
theorem dX8_sift_205 : decode cX8_sift 205 = .ok (.aload_n 0, 1) := by decide +kernel
theorem dX8_sift_206 : decode cX8_sift 206 = .ok (.iload_n 2, 1) := by decide +kernel
theorem dX8_sift_207 : decode cX8_sift 207 = .ok (.ifCond .eq 11, 3) := by decide +kernel
theorem dX8_sift_210 : decode cX8_sift 210 = .ok (.dload 7, 2) := by decide +kernel
theorem dX8_sift_212 : decode cX8_sift 212 = .ok (.invokestatic 148, 3) := by decide +kernel
theorem dX8_sift_215 : decode cX8_sift 215 = .ok (.goto 9, 3) := by decide +kernel
theorem dX8_sift_218 : decode cX8_sift 218 = .ok (.fload 6, 2) := by decide +kernel
theorem dX8_sift_220 : decode cX8_sift 220 = .ok (.invokestatic 152, 3) := by decide +kernel
theorem dX8_sift_223 : decode cX8_sift 223 = .ok (.i2l, 1) := by decide +kernel
theorem dX8_sift_224 : decode cX8_sift 224 = .ok (.putfield 202, 3) := by decide +kernel
theorem dX8_sift_227 : decode cX8_sift 227 = .ok (.aload_n 0, 1) := by decide +kernel
theorem dX8_sift_228 : decode cX8_sift 228 = .ok (.iload 9, 2) := by decide +kernel
theorem dX8_sift_230 : decode cX8_sift 230 = .ok (.invokevirtual 139, 3) := by decide +kernel
theorem dX8_sift_233 : decode cX8_sift 233 = .ok (.ireturn, 1) := by decide +kernel
set_option maxRecDepth 20000 in
theorem ggX8_castReal_Jxf58ca_floatToIntBits_5c35a : GoodIn wsX8_castReal wsJxf58ca_floatToIntBits_5c35a := goodIn_r _ [4, 5, 6, 7, 8, 9, 10, 11, 3, 12] (by decide +kernel) (by decide +kernel)
set_option maxRecDepth 20000 in
theorem gX8_castReal_Jxf58ca_floatToIntBits_5c35a : GoodIn wsX8_castReal (va_wsS RX8 152 yJxf58ca_floatToIntBits_5c35a wsJxf58ca_floatToIntBits_5c35a) := goodIn_app (goodIn_of _ (by decide +kernel)) ggX8_castReal_Jxf58ca_floatToIntBits_5c35a
set_option maxRecDepth 20000 in
theorem ggX8_castReal_Jxe99ae_doubleToLongBits_ccdee : GoodIn wsX8_castReal wsJxe99ae_doubleToLongBits_ccdee := goodIn_r _ [16, 17, 18, 19, 20, 21, 22, 23, 15, 24] (by decide +kernel) (by decide +kernel)
set_option maxRecDepth 20000 in
theorem gX8_castReal_Jxe99ae_doubleToLongBits_ccdee : GoodIn wsX8_castReal (va_wsS RX8 148 yJxe99ae_doubleToLongBits_ccdee wsJxe99ae_doubleToLongBits_ccdee) := goodIn_app (goodIn_of _ (by decide +kernel)) ggX8_castReal_Jxe99ae_doubleToLongBits_ccdee
theorem dX8_castReal_0 : decode cX8_castReal 0 = .ok (.iload_n 2, 1) := by decide +kernel
theorem dX8_castReal_1 : decode cX8_castReal 1 = .ok (.tableswitch 41 0 2 #[27, 31, 34], 27) := by decide +kernel
theorem dX8_castReal_28 : decode cX8_castReal 28 = .ok (.dload_n 0, 1) := by decide +kernel
theorem dX8_castReal_29 : decode cX8_castReal 29 = .ok (.d2i, 1) := by decide +kernel
theorem dX8_castReal_30 : decode cX8_castReal 30 = .ok (.i2l, 1) := by decide +kernel
theorem dX8_castReal_31 : decode cX8_castReal 31 = .ok (.lreturn, 1) := by decide +kernel
theorem dX8_castReal_32 : decode cX8_castReal 32 = .ok (.dload_n 0, 1) := by decide +kernel
theorem dX8_castReal_33 : decode cX8_castReal 33 = .ok (.d2l, 1) := by decide +kernel
theorem dX8_castReal_34 : decode cX8_castReal 34 = .ok (.lreturn, 1) := by decide +kernel
theorem dX8_castReal_35 : decode cX8_castReal 35 = .ok (.dload_n 0, 1) := by decide +kernel
theorem dX8_castReal_36 : decode cX8_castReal 36 = .ok (.d2f, 1) := by decide +kernel
theorem dX8_castReal_37 : decode cX8_castReal 37 = .ok (.invokestatic 152, 3) := by decide +kernel
theorem dX8_castReal_40 : decode cX8_castReal 40 = .ok (.i2l, 1) := by decide +kernel
theorem dX8_castReal_41 : decode cX8_castReal 41 = .ok (.lreturn, 1) := by decide +kernel
theorem dX8_castReal_42 : decode cX8_castReal 42 = .ok (.dload_n 0, 1) := by decide +kernel
theorem dX8_castReal_43 : decode cX8_castReal 43 = .ok (.invokestatic 148, 3) := by decide +kernel
theorem dX8_castReal_46 : decode cX8_castReal 46 = .ok (.lreturn, 1) := by decide +kernel
set_option maxRecDepth 20000 in
theorem ggX8_castWhole_Jxf58ca_floatToIntBits_5c35a : GoodIn wsX8_castWhole wsJxf58ca_floatToIntBits_5c35a := goodIn_r _ [4, 5, 6, 7, 8, 9, 10, 11, 3, 12] (by decide +kernel) (by decide +kernel)
set_option maxRecDepth 20000 in
theorem gX8_castWhole_Jxf58ca_floatToIntBits_5c35a : GoodIn wsX8_castWhole (va_wsS RX8 152 yJxf58ca_floatToIntBits_5c35a wsJxf58ca_floatToIntBits_5c35a) := goodIn_app (goodIn_of _ (by decide +kernel)) ggX8_castWhole_Jxf58ca_floatToIntBits_5c35a
set_option maxRecDepth 20000 in
theorem ggX8_castWhole_Jxe99ae_doubleToLongBits_ccdee : GoodIn wsX8_castWhole wsJxe99ae_doubleToLongBits_ccdee := goodIn_r _ [16, 17, 18, 19, 20, 21, 22, 23, 15, 24] (by decide +kernel) (by decide +kernel)
set_option maxRecDepth 20000 in
theorem gX8_castWhole_Jxe99ae_doubleToLongBits_ccdee : GoodIn wsX8_castWhole (va_wsS RX8 148 yJxe99ae_doubleToLongBits_ccdee wsJxe99ae_doubleToLongBits_ccdee) := goodIn_app (goodIn_of _ (by decide +kernel)) ggX8_castWhole_Jxe99ae_doubleToLongBits_ccdee
theorem dX8_castWhole_0 : decode cX8_castWhole 0 = .ok (.iload_n 2, 1) := by decide +kernel
theorem dX8_castWhole_1 : decode cX8_castWhole 1 = .ok (.tableswitch 40 0 2 #[27, 31, 33], 27) := by decide +kernel
theorem dX8_castWhole_28 : decode cX8_castWhole 28 = .ok (.lload_n 0, 1) := by decide +kernel
theorem dX8_castWhole_29 : decode cX8_castWhole 29 = .ok (.l2i, 1) := by decide +kernel
theorem dX8_castWhole_30 : decode cX8_castWhole 30 = .ok (.i2l, 1) := by decide +kernel
theorem dX8_castWhole_31 : decode cX8_castWhole 31 = .ok (.lreturn, 1) := by decide +kernel
theorem dX8_castWhole_32 : decode cX8_castWhole 32 = .ok (.lload_n 0, 1) := by decide +kernel
theorem dX8_castWhole_33 : decode cX8_castWhole 33 = .ok (.lreturn, 1) := by decide +kernel
theorem dX8_castWhole_34 : decode cX8_castWhole 34 = .ok (.lload_n 0, 1) := by decide +kernel
theorem dX8_castWhole_35 : decode cX8_castWhole 35 = .ok (.l2f, 1) := by decide +kernel
theorem dX8_castWhole_36 : decode cX8_castWhole 36 = .ok (.invokestatic 152, 3) := by decide +kernel
theorem dX8_castWhole_39 : decode cX8_castWhole 39 = .ok (.i2l, 1) := by decide +kernel
theorem dX8_castWhole_40 : decode cX8_castWhole 40 = .ok (.lreturn, 1) := by decide +kernel
theorem dX8_castWhole_41 : decode cX8_castWhole 41 = .ok (.lload_n 0, 1) := by decide +kernel
theorem dX8_castWhole_42 : decode cX8_castWhole 42 = .ok (.l2d, 1) := by decide +kernel
theorem dX8_castWhole_43 : decode cX8_castWhole 43 = .ok (.invokestatic 148, 3) := by decide +kernel
theorem dX8_castWhole_46 : decode cX8_castWhole 46 = .ok (.lreturn, 1) := by decide +kernel
set_option maxRecDepth 20000 in
theorem ggX8_cast_X8_in : GoodIn wsX8_cast wsX8_in := goodIn_r _ [6] (by decide +kernel) (by decide +kernel)
set_option maxRecDepth 20000 in
theorem gX8_cast_X8_in : GoodIn wsX8_cast (va_wsS RX8 100 yX8_in wsX8_in) := goodIn_app (goodIn_of _ (by decide +kernel)) ggX8_cast_X8_in
set_option maxRecDepth 20000 in
theorem ggX8_cast_X8_isNone : GoodIn wsX8_cast wsX8_isNone := goodIn_r _ [9, 10, 11, 12, 13] (by decide +kernel) (by decide +kernel)
set_option maxRecDepth 20000 in
theorem gX8_cast_X8_isNone : GoodIn wsX8_cast (va_wsS RX8 206 yX8_isNone wsX8_isNone) := goodIn_app (goodIn_of _ (by decide +kernel)) ggX8_cast_X8_isNone
set_option maxRecDepth 20000 in
theorem ggX8_cast_X8_castWhole : GoodIn wsX8_cast wsX8_castWhole := goodIn_r _ [16, 17, 18, 19, 20, 21, 22, 23, 24, 25, 26, 27, 28, 29, 30, 31, 32, 33, 34, 35, 36, 37, 38, 39, 40] (by decide +kernel) (by decide +kernel)
set_option maxRecDepth 20000 in
theorem gX8_cast_X8_castWhole : GoodIn wsX8_cast (va_wsS RX8 209 yX8_castWhole wsX8_castWhole) := goodIn_app (goodIn_of _ (by decide +kernel)) ggX8_cast_X8_castWhole
set_option maxRecDepth 20000 in
theorem ggX8_cast_X8_floatOf : GoodIn wsX8_cast wsX8_floatOf := goodIn_r _ [43, 44, 45, 46, 24] (by decide +kernel) (by decide +kernel)
set_option maxRecDepth 20000 in
theorem gX8_cast_X8_floatOf : GoodIn wsX8_cast (va_wsS RX8 111 yX8_floatOf wsX8_floatOf) := goodIn_app (goodIn_of _ (by decide +kernel)) ggX8_cast_X8_floatOf
set_option maxRecDepth 20000 in
theorem ggX8_cast_X8_doubleOf : GoodIn wsX8_cast wsX8_doubleOf := goodIn_r _ [49, 50, 51, 52, 36] (by decide +kernel) (by decide +kernel)
set_option maxRecDepth 20000 in
theorem gX8_cast_X8_doubleOf : GoodIn wsX8_cast (va_wsS RX8 108 yX8_doubleOf wsX8_doubleOf) := goodIn_app (goodIn_of _ (by decide +kernel)) ggX8_cast_X8_doubleOf
set_option maxRecDepth 20000 in
theorem ggX8_cast_X8_castReal : GoodIn wsX8_cast wsX8_castReal := goodIn_r _ [55, 17, 18, 19, 20, 21, 22, 23, 24, 25, 26, 27, 28, 29, 30, 31, 32, 33, 34, 35, 36, 37, 38, 39, 40] (by decide +kernel) (by decide +kernel)
set_option maxRecDepth 20000 in
theorem gX8_cast_X8_castReal : GoodIn wsX8_cast (va_wsS RX8 213 yX8_castReal wsX8_castReal) := goodIn_app (goodIn_of _ (by decide +kernel)) ggX8_cast_X8_castReal
theorem dX8_cast_0 : decode cX8_cast 0 = .ok (.iload_n 1, 1) := by decide +kernel
theorem dX8_cast_1 : decode cX8_cast 1 = .ok (.i2l, 1) := by decide +kernel
theorem dX8_cast_2 : decode cX8_cast 2 = .ok (.lconst 0, 1) := by decide +kernel
theorem dX8_cast_3 : decode cX8_cast 3 = .ok (.ldc2_w 184, 3) := by decide +kernel
theorem dX8_cast_6 : decode cX8_cast 6 = .ok (.invokestatic 100, 3) := by decide +kernel
theorem dX8_cast_9 : decode cX8_cast 9 = .ok (.ifCond .eq 23, 3) := by decide +kernel
theorem dX8_cast_12 : decode cX8_cast 12 = .ok (.iload_n 2, 1) := by decide +kernel
theorem dX8_cast_13 : decode cX8_cast 13 = .ok (.i2l, 1) := by decide +kernel
theorem dX8_cast_14 : decode cX8_cast 14 = .ok (.lconst 0, 1) := by decide +kernel
theorem dX8_cast_15 : decode cX8_cast 15 = .ok (.ldc2_w 184, 3) := by decide +kernel
theorem dX8_cast_18 : decode cX8_cast 18 = .ok (.invokestatic 100, 3) := by decide +kernel
theorem dX8_cast_21 : decode cX8_cast 21 = .ok (.ifCond .eq 11, 3) := by decide +kernel
theorem dX8_cast_24 : decode cX8_cast 24 = .ok (.iload_n 1, 1) := by decide +kernel
theorem dX8_cast_25 : decode cX8_cast 25 = .ok (.lload_n 3, 1) := by decide +kernel
theorem dX8_cast_26 : decode cX8_cast 26 = .ok (.invokestatic 206, 3) := by decide +kernel
theorem dX8_cast_29 : decode cX8_cast 29 = .ok (.ifCond .eq 6, 3) := by decide +kernel
theorem dX8_cast_32 : decode cX8_cast 32 = .ok (.bipush (-102), 2) := by decide +kernel
theorem dX8_cast_34 : decode cX8_cast 34 = .ok (.ireturn, 1) := by decide +kernel
theorem dX8_cast_35 : decode cX8_cast 35 = .ok (.aload_n 0, 1) := by decide +kernel
theorem dX8_cast_36 : decode cX8_cast 36 = .ok (.iload_n 1, 1) := by decide +kernel
theorem dX8_cast_37 : decode cX8_cast 37 = .ok (.iconst 2, 1) := by decide +kernel
theorem dX8_cast_38 : decode cX8_cast 38 = .ok (.if_icmp .ge 21, 3) := by decide +kernel
theorem dX8_cast_41 : decode cX8_cast 41 = .ok (.iload_n 1, 1) := by decide +kernel
theorem dX8_cast_42 : decode cX8_cast 42 = .ok (.ifCond .ne 9, 3) := by decide +kernel
theorem dX8_cast_45 : decode cX8_cast 45 = .ok (.lload_n 3, 1) := by decide +kernel
theorem dX8_cast_46 : decode cX8_cast 46 = .ok (.l2i, 1) := by decide +kernel
theorem dX8_cast_47 : decode cX8_cast 47 = .ok (.i2l, 1) := by decide +kernel
theorem dX8_cast_48 : decode cX8_cast 48 = .ok (.goto 4, 3) := by decide +kernel
theorem dX8_cast_51 : decode cX8_cast 51 = .ok (.lload_n 3, 1) := by decide +kernel
theorem dX8_cast_52 : decode cX8_cast 52 = .ok (.iload_n 2, 1) := by decide +kernel
theorem dX8_cast_53 : decode cX8_cast 53 = .ok (.invokestatic 209, 3) := by decide +kernel
theorem dX8_cast_56 : decode cX8_cast 56 = .ok (.goto 24, 3) := by decide +kernel
theorem dX8_cast_59 : decode cX8_cast 59 = .ok (.iload_n 1, 1) := by decide +kernel
theorem dX8_cast_60 : decode cX8_cast 60 = .ok (.iconst 2, 1) := by decide +kernel
theorem dX8_cast_61 : decode cX8_cast 61 = .ok (.if_icmp .ne 11, 3) := by decide +kernel
theorem dX8_cast_64 : decode cX8_cast 64 = .ok (.lload_n 3, 1) := by decide +kernel
theorem dX8_cast_65 : decode cX8_cast 65 = .ok (.invokestatic 111, 3) := by decide +kernel
theorem dX8_cast_68 : decode cX8_cast 68 = .ok (.f2d, 1) := by decide +kernel
theorem dX8_cast_69 : decode cX8_cast 69 = .ok (.goto 7, 3) := by decide +kernel
theorem dX8_cast_72 : decode cX8_cast 72 = .ok (.lload_n 3, 1) := by decide +kernel
theorem dX8_cast_73 : decode cX8_cast 73 = .ok (.invokestatic 108, 3) := by decide +kernel
theorem dX8_cast_76 : decode cX8_cast 76 = .ok (.iload_n 2, 1) := by decide +kernel
theorem dX8_cast_77 : decode cX8_cast 77 = .ok (.invokestatic 213, 3) := by decide +kernel
theorem dX8_cast_80 : decode cX8_cast 80 = .ok (.putfield 202, 3) := by decide +kernel
theorem dX8_cast_83 : decode cX8_cast 83 = .ok (.iconst 1, 1) := by decide +kernel
theorem dX8_cast_84 : decode cX8_cast 84 = .ok (.ireturn, 1) := by decide +kernel
set_option maxRecDepth 20000 in
theorem ggX8_left_X8_isNone : GoodIn wsX8_left wsX8_isNone := goodIn_r _ [5, 6, 7, 8, 9] (by decide +kernel) (by decide +kernel)
set_option maxRecDepth 20000 in
theorem gX8_left_X8_isNone : GoodIn wsX8_left (va_wsS RX8 206 yX8_isNone wsX8_isNone) := goodIn_app (goodIn_of _ (by decide +kernel)) ggX8_left_X8_isNone
set_option maxRecDepth 20000 in
theorem ggX8_left_X8_isFit : GoodIn wsX8_left wsX8_isFit := goodIn_r _ [12, 13, 14, 4, 15, 9, 16, 17, 18, 7] (by decide +kernel) (by decide +kernel)
set_option maxRecDepth 20000 in
theorem gX8_left_X8_isFit : GoodIn wsX8_left (va_wsS RX8 104 yX8_isFit wsX8_isFit) := goodIn_app (goodIn_of _ (by decide +kernel)) ggX8_left_X8_isFit
set_option maxRecDepth 20000 in
theorem ggX8_left_X8_doubleOf : GoodIn wsX8_left wsX8_doubleOf := goodIn_r _ [21, 22, 23, 24, 25] (by decide +kernel) (by decide +kernel)
set_option maxRecDepth 20000 in
theorem gX8_left_X8_doubleOf : GoodIn wsX8_left (va_wsS RX8 108 yX8_doubleOf wsX8_doubleOf) := goodIn_app (goodIn_of _ (by decide +kernel)) ggX8_left_X8_doubleOf
set_option maxRecDepth 20000 in
theorem ggX8_left_X8_floatOf : GoodIn wsX8_left wsX8_floatOf := goodIn_r _ [28, 29, 30, 31, 32] (by decide +kernel) (by decide +kernel)
set_option maxRecDepth 20000 in
theorem gX8_left_X8_floatOf : GoodIn wsX8_left (va_wsS RX8 111 yX8_floatOf wsX8_floatOf) := goodIn_app (goodIn_of _ (by decide +kernel)) ggX8_left_X8_floatOf
set_option maxRecDepth 20000 in
theorem ggX8_left_Jxe99ae_doubleToLongBits_ccdee : GoodIn wsX8_left wsJxe99ae_doubleToLongBits_ccdee := goodIn_r _ [36, 37, 38, 39, 25, 40, 41, 42, 35, 43] (by decide +kernel) (by decide +kernel)
set_option maxRecDepth 20000 in
theorem gX8_left_Jxe99ae_doubleToLongBits_ccdee : GoodIn wsX8_left (va_wsS RX8 148 yJxe99ae_doubleToLongBits_ccdee wsJxe99ae_doubleToLongBits_ccdee) := goodIn_app (goodIn_of _ (by decide +kernel)) ggX8_left_Jxe99ae_doubleToLongBits_ccdee
set_option maxRecDepth 20000 in
theorem ggX8_left_Jxf58ca_floatToIntBits_5c35a : GoodIn wsX8_left wsJxf58ca_floatToIntBits_5c35a := goodIn_r _ [47, 48, 49, 50, 32, 51, 52, 53, 46, 54] (by decide +kernel) (by decide +kernel)
set_option maxRecDepth 20000 in
theorem gX8_left_Jxf58ca_floatToIntBits_5c35a : GoodIn wsX8_left (va_wsS RX8 152 yJxf58ca_floatToIntBits_5c35a wsJxf58ca_floatToIntBits_5c35a) := goodIn_app (goodIn_of _ (by decide +kernel)) ggX8_left_Jxf58ca_floatToIntBits_5c35a
theorem dX8_left_0 : decode cX8_left 0 = .ok (.iload_n 1, 1) := by decide +kernel
theorem dX8_left_1 : decode cX8_left 1 = .ok (.ifCond .eq 7, 3) := by decide +kernel
theorem dX8_left_4 : decode cX8_left 4 = .ok (.iconst 3, 1) := by decide +kernel
theorem dX8_left_5 : decode cX8_left 5 = .ok (.goto 4, 3) := by decide +kernel
theorem dX8_left_8 : decode cX8_left 8 = .ok (.iconst 2, 1) := by decide +kernel
theorem dX8_left_9 : decode cX8_left 9 = .ok (.lload 4, 2) := by decide +kernel
theorem dX8_left_11 : decode cX8_left 11 = .ok (.invokestatic 206, 3) := by decide +kernel
theorem dX8_left_14 : decode cX8_left 14 = .ok (.istore 6, 2) := by decide +kernel
theorem dX8_left_16 : decode cX8_left 16 = .ok (.iload_n 1, 1) := by decide +kernel
theorem dX8_left_17 : decode cX8_left 17 = .ok (.lload_n 2, 1) := by decide +kernel
theorem dX8_left_18 : decode cX8_left 18 = .ok (.invokestatic 104, 3) := by decide +kernel
theorem dX8_left_21 : decode cX8_left 21 = .ok (.ifCond .eq 35, 3) := by decide +kernel
theorem dX8_left_24 : decode cX8_left 24 = .ok (.iload 6, 2) := by decide +kernel
theorem dX8_left_26 : decode cX8_left 26 = .ok (.ifCond .ne 30, 3) := by decide +kernel
theorem dX8_left_29 : decode cX8_left 29 = .ok (.iload_n 1, 1) := by decide +kernel
theorem dX8_left_30 : decode cX8_left 30 = .ok (.ifCond .eq 16, 3) := by decide +kernel
theorem dX8_left_33 : decode cX8_left 33 = .ok (.lload 4, 2) := by decide +kernel
theorem dX8_left_35 : decode cX8_left 35 = .ok (.invokestatic 108, 3) := by decide +kernel
theorem dX8_left_38 : decode cX8_left 38 = .ok (.dconst 0, 1) := by decide +kernel
theorem dX8_left_39 : decode cX8_left 39 = .ok (.dcmp .l, 1) := by decide +kernel
theorem dX8_left_40 : decode cX8_left 40 = .ok (.ifCond .ne 19, 3) := by decide +kernel
theorem dX8_left_43 : decode cX8_left 43 = .ok (.goto 13, 3) := by decide +kernel
theorem dX8_left_46 : decode cX8_left 46 = .ok (.lload 4, 2) := by decide +kernel
theorem dX8_left_48 : decode cX8_left 48 = .ok (.invokestatic 111, 3) := by decide +kernel
theorem dX8_left_51 : decode cX8_left 51 = .ok (.fconst 0, 1) := by decide +kernel
theorem dX8_left_52 : decode cX8_left 52 = .ok (.fcmp .l, 1) := by decide +kernel
theorem dX8_left_53 : decode cX8_left 53 = .ok (.ifCond .ne 6, 3) := by decide +kernel
theorem dX8_left_56 : decode cX8_left 56 = .ok (.bipush (-102), 2) := by decide +kernel
theorem dX8_left_58 : decode cX8_left 58 = .ok (.ireturn, 1) := by decide +kernel
theorem dX8_left_59 : decode cX8_left 59 = .ok (.aload_n 0, 1) := by decide +kernel
theorem dX8_left_60 : decode cX8_left 60 = .ok (.iload_n 1, 1) := by decide +kernel
theorem dX8_left_61 : decode cX8_left 61 = .ok (.ifCond .eq 19, 3) := by decide +kernel
theorem dX8_left_64 : decode cX8_left 64 = .ok (.lload_n 2, 1) := by decide +kernel
theorem dX8_left_65 : decode cX8_left 65 = .ok (.invokestatic 108, 3) := by decide +kernel
theorem dX8_left_68 : decode cX8_left 68 = .ok (.lload 4, 2) := by decide +kernel
theorem dX8_left_70 : decode cX8_left 70 = .ok (.invokestatic 108, 3) := by decide +kernel
theorem dX8_left_73 : decode cX8_left 73 = .ok (.drem, 1) := by decide +kernel
theorem dX8_left_74 : decode cX8_left 74 = .ok (.invokestatic 148, 3) := by decide +kernel
theorem dX8_left_77 : decode cX8_left 77 = .ok (.goto 17, 3) := by decide +kernel
theorem dX8_left_80 : decode cX8_left 80 = .ok (.lload_n 2, 1) := by decide +kernel
theorem dX8_left_81 : decode cX8_left 81 = .ok (.invokestatic 111, 3) := by decide +kernel
theorem dX8_left_84 : decode cX8_left 84 = .ok (.lload 4, 2) := by decide +kernel
theorem dX8_left_86 : decode cX8_left 86 = .ok (.invokestatic 111, 3) := by decide +kernel
theorem dX8_left_89 : decode cX8_left 89 = .ok (.frem, 1) := by decide +kernel
theorem dX8_left_90 : decode cX8_left 90 = .ok (.invokestatic 152, 3) := by decide +kernel
theorem dX8_left_93 : decode cX8_left 93 = .ok (.i2l, 1) := by decide +kernel
theorem dX8_left_94 : decode cX8_left 94 = .ok (.putfield 202, 3) := by decide +kernel
theorem dX8_left_97 : decode cX8_left 97 = .ok (.iconst 1, 1) := by decide +kernel
theorem dX8_left_98 : decode cX8_left 98 = .ok (.ireturn, 1) := by decide +kernel
theorem dX8_failed_0 : decode cX8_failed 0 = .ok (.aload_n 0, 1) := by decide +kernel
theorem dX8_failed_1 : decode cX8_failed 1 = .ok (.getfield 66, 3) := by decide +kernel
theorem dX8_failed_4 : decode cX8_failed 4 = .ok (.ireturn, 1) := by decide +kernel
set_option maxRecDepth 20000 in
theorem ggX8_about_X8_in : GoodIn wsX8_about wsX8_in := goodIn_r _ [9] (by decide +kernel) (by decide +kernel)
set_option maxRecDepth 20000 in
theorem gX8_about_X8_in : GoodIn wsX8_about (va_wsS RX8 100 yX8_in wsX8_in) := goodIn_app (goodIn_of _ (by decide +kernel)) ggX8_about_X8_in
theorem dX8_about_0 : decode cX8_about 0 = .ok (.iload_n 1, 1) := by decide +kernel
theorem dX8_about_1 : decode cX8_about 1 = .ok (.ifCond .ne 10, 3) := by decide +kernel
theorem dX8_about_4 : decode cX8_about 4 = .ok (.aload_n 0, 1) := by decide +kernel
theorem dX8_about_5 : decode cX8_about 5 = .ok (.getfield 62, 3) := by decide +kernel
theorem dX8_about_8 : decode cX8_about 8 = .ok (.goto 42, 3) := by decide +kernel
theorem dX8_about_11 : decode cX8_about 11 = .ok (.iload_n 1, 1) := by decide +kernel
theorem dX8_about_12 : decode cX8_about 12 = .ok (.iconst 1, 1) := by decide +kernel
theorem dX8_about_13 : decode cX8_about 13 = .ok (.if_icmp .ne 10, 3) := by decide +kernel
theorem dX8_about_16 : decode cX8_about 16 = .ok (.aload_n 0, 1) := by decide +kernel
theorem dX8_about_17 : decode cX8_about 17 = .ok (.getfield 156, 3) := by decide +kernel
theorem dX8_about_20 : decode cX8_about 20 = .ok (.goto 30, 3) := by decide +kernel
theorem dX8_about_23 : decode cX8_about 23 = .ok (.iload_n 1, 1) := by decide +kernel
theorem dX8_about_24 : decode cX8_about 24 = .ok (.i2l, 1) := by decide +kernel
theorem dX8_about_25 : decode cX8_about 25 = .ok (.ldc2_w 161, 3) := by decide +kernel
theorem dX8_about_28 : decode cX8_about 28 = .ok (.ldc2_w 217, 3) := by decide +kernel
theorem dX8_about_31 : decode cX8_about 31 = .ok (.invokestatic 100, 3) := by decide +kernel
theorem dX8_about_34 : decode cX8_about 34 = .ok (.ifCond .eq 14, 3) := by decide +kernel
theorem dX8_about_37 : decode cX8_about 37 = .ok (.aload_n 0, 1) := by decide +kernel
theorem dX8_about_38 : decode cX8_about 38 = .ok (.getfield 59, 3) := by decide +kernel
theorem dX8_about_41 : decode cX8_about 41 = .ok (.iload_n 1, 1) := by decide +kernel
theorem dX8_about_42 : decode cX8_about 42 = .ok (.iconst 2, 1) := by decide +kernel
theorem dX8_about_43 : decode cX8_about 43 = .ok (.isub, 1) := by decide +kernel
theorem dX8_about_44 : decode cX8_about 44 = .ok (.iaload, 1) := by decide +kernel
theorem dX8_about_45 : decode cX8_about 45 = .ok (.goto 5, 3) := by decide +kernel
theorem dX8_about_48 : decode cX8_about 48 = .ok (.bipush (-102), 2) := by decide +kernel
theorem dX8_about_50 : decode cX8_about 50 = .ok (.ireturn, 1) := by decide +kernel
