theorem dX7_addCostume_61 : decode cX7_addCostume 61 = .ok (.invokevirtual 56, 3) := by decide +kernel
theorem dX7_addCostume_64 : decode cX7_addCostume 64 = .ok (.aload_n 0, 1) := by decide +kernel
theorem dX7_addCostume_65 : decode cX7_addCostume 65 = .ok (.getfield 10, 3) := by decide +kernel
theorem dX7_addCostume_68 : decode cX7_addCostume 68 = .ok (.getfield 46, 3) := by decide +kernel
theorem dX7_addCostume_71 : decode cX7_addCostume 71 = .ok (.iload_n 1, 1) := by decide +kernel
theorem dX7_addCostume_72 : decode cX7_addCostume 72 = .ok (.iload_n 2, 1) := by decide +kernel
theorem dX7_addCostume_73 : decode cX7_addCostume 73 = .ok (.iload_n 3, 1) := by decide +kernel
theorem dX7_addCostume_74 : decode cX7_addCostume 74 = .ok (.iload 4, 2) := by decide +kernel
theorem dX7_addCostume_76 : decode cX7_addCostume 76 = .ok (.iload 5, 2) := by decide +kernel
theorem dX7_addCostume_78 : decode cX7_addCostume 78 = .ok (.iconst 0, 1) := by decide +kernel
theorem dX7_addCostume_79 : decode cX7_addCostume 79 = .ok (.invokevirtual 60, 3) := by decide +kernel
theorem dX7_addCostume_82 : decode cX7_addCostume 82 = .ok (.ireturn, 1) := by decide +kernel
set_option maxRecDepth 20000 in
theorem ggX7_setColor_X6_has : GoodIn wsX7_setColor wsX6_has := goodIn_r _ [9, 10, 102, 103, 104, 105, 106, 107, 108, 109, 110] (by decide +kernel) (by decide +kernel)
set_option maxRecDepth 20000 in
theorem gX7_setColor_X6_has : GoodIn wsX7_setColor (wsV RX7 64 RX6 yX6_has wsX6_has) := goodIn_app (goodIn_of _ (by decide +kernel)) ggX7_setColor_X6_has
set_option maxRecDepth 20000 in
theorem ggX7_setColor_X7_isWithin : GoodIn wsX7_setColor wsX7_isWithin := goodIn_r _ [14] (by decide +kernel) (by decide +kernel)
set_option maxRecDepth 20000 in
theorem gX7_setColor_X7_isWithin : GoodIn wsX7_setColor (va_wsS RX7 43 yX7_isWithin wsX7_isWithin) := goodIn_app (goodIn_of _ (by decide +kernel)) ggX7_setColor_X7_isWithin
set_option maxRecDepth 20000 in
theorem ggX7_setColor_X2_remember : GoodIn wsX7_setColor wsX2_remember := goodIn_r _ [19, 20, 21, 22, 23, 24, 25, 26, 27, 28, 18, 29, 30, 31, 32, 33, 34, 35, 36, 37, 38, 39, 40, 41, 42, 43, 44, 45, 46, 47, 8, 48, 10, 49, 50, 51, 52, 53, 54, 55, 56, 57, 13, 58, 59, 60, 61, 62, 63, 64, 65, 66, 67, 68, 69, 70, 71, 72, 73, 74, 75, 76, 77, 78, 79, 80, 81, 82, 111, 112, 113, 93, 94, 95, 96, 97, 98, 99, 100, 101, 102, 103, 104, 105, 106, 107, 108, 109, 110, 114, 115, 116, 117, 118, 119, 120, 121, 122] (by decide +kernel) (by decide +kernel)
set_option maxRecDepth 20000 in
theorem gX7_setColor_X2_remember : GoodIn wsX7_setColor (wsV RX7 56 RX2 yX2_remember wsX2_remember) := goodIn_app (goodIn_of _ (by decide +kernel)) ggX7_setColor_X2_remember
set_option maxRecDepth 20000 in
theorem ggX7_setColor_X7_at : GoodIn wsX7_setColor wsX7_at := goodIn_r _ [85] (by decide +kernel) (by decide +kernel)
set_option maxRecDepth 20000 in
theorem gX7_setColor_X7_at : GoodIn wsX7_setColor (va_wsS RX7 72 yX7_at wsX7_at) := goodIn_app (goodIn_of _ (by decide +kernel)) ggX7_setColor_X7_at
set_option maxRecDepth 20000 in
theorem ggX7_setColor_X7_put : GoodIn wsX7_setColor wsX7_put := goodIn_r _ [88] (by decide +kernel) (by decide +kernel)
set_option maxRecDepth 20000 in
theorem gX7_setColor_X7_put : GoodIn wsX7_setColor (va_wsS RX7 76 yX7_put wsX7_put) := goodIn_app (goodIn_of _ (by decide +kernel)) ggX7_setColor_X7_put
theorem dX7_setColor_0 : decode cX7_setColor 0 = .ok (.aload_n 0, 1) := by decide +kernel
theorem dX7_setColor_1 : decode cX7_setColor 1 = .ok (.getfield 10, 3) := by decide +kernel
theorem dX7_setColor_4 : decode cX7_setColor 4 = .ok (.getfield 46, 3) := by decide +kernel
theorem dX7_setColor_7 : decode cX7_setColor 7 = .ok (.iload_n 1, 1) := by decide +kernel
theorem dX7_setColor_8 : decode cX7_setColor 8 = .ok (.invokevirtual 64, 3) := by decide +kernel
theorem dX7_setColor_11 : decode cX7_setColor 11 = .ok (.ifCond .eq 12, 3) := by decide +kernel
theorem dX7_setColor_14 : decode cX7_setColor 14 = .ok (.iload_n 2, 1) := by decide +kernel
theorem dX7_setColor_15 : decode cX7_setColor 15 = .ok (.iconst 0, 1) := by decide +kernel
theorem dX7_setColor_16 : decode cX7_setColor 16 = .ok (.iconst 1, 1) := by decide +kernel
theorem dX7_setColor_17 : decode cX7_setColor 17 = .ok (.invokestatic 43, 3) := by decide +kernel
theorem dX7_setColor_20 : decode cX7_setColor 20 = .ok (.ifCond .ne 7, 3) := by decide +kernel
theorem dX7_setColor_23 : decode cX7_setColor 23 = .ok (.sipush (-2001), 3) := by decide +kernel
theorem dX7_setColor_26 : decode cX7_setColor 26 = .ok (.ireturn, 1) := by decide +kernel
theorem dX7_setColor_27 : decode cX7_setColor 27 = .ok (.aload_n 0, 1) := by decide +kernel
theorem dX7_setColor_28 : decode cX7_setColor 28 = .ok (.getfield 19, 3) := by decide +kernel
theorem dX7_setColor_31 : decode cX7_setColor 31 = .ok (.aload_n 0, 1) := by decide +kernel
theorem dX7_setColor_32 : decode cX7_setColor 32 = .ok (.getfield 10, 3) := by decide +kernel
theorem dX7_setColor_35 : decode cX7_setColor 35 = .ok (.invokevirtual 56, 3) := by decide +kernel
theorem dX7_setColor_38 : decode cX7_setColor 38 = .ok (.aload_n 0, 1) := by decide +kernel
theorem dX7_setColor_39 : decode cX7_setColor 39 = .ok (.getfield 10, 3) := by decide +kernel
theorem dX7_setColor_42 : decode cX7_setColor 42 = .ok (.getfield 46, 3) := by decide +kernel
theorem dX7_setColor_45 : decode cX7_setColor 45 = .ok (.getfield 68, 3) := by decide +kernel
theorem dX7_setColor_48 : decode cX7_setColor 48 = .ok (.iload_n 1, 1) := by decide +kernel
theorem dX7_setColor_49 : decode cX7_setColor 49 = .ok (.invokestatic 72, 3) := by decide +kernel
theorem dX7_setColor_52 : decode cX7_setColor 52 = .ok (.istore_n 3, 1) := by decide +kernel
theorem dX7_setColor_53 : decode cX7_setColor 53 = .ok (.aload_n 0, 1) := by decide +kernel
theorem dX7_setColor_54 : decode cX7_setColor 54 = .ok (.getfield 10, 3) := by decide +kernel
theorem dX7_setColor_57 : decode cX7_setColor 57 = .ok (.getfield 46, 3) := by decide +kernel
theorem dX7_setColor_60 : decode cX7_setColor 60 = .ok (.getfield 68, 3) := by decide +kernel
theorem dX7_setColor_63 : decode cX7_setColor 63 = .ok (.iload_n 1, 1) := by decide +kernel
theorem dX7_setColor_64 : decode cX7_setColor 64 = .ok (.iload_n 2, 1) := by decide +kernel
theorem dX7_setColor_65 : decode cX7_setColor 65 = .ok (.invokestatic 76, 3) := by decide +kernel
theorem dX7_setColor_68 : decode cX7_setColor 68 = .ok (.iload_n 3, 1) := by decide +kernel
theorem dX7_setColor_69 : decode cX7_setColor 69 = .ok (.ireturn, 1) := by decide +kernel
set_option maxRecDepth 20000 in
theorem ggX7_addActor_X7_areMeasures : GoodIn wsX7_addActor wsX7_areMeasures := goodIn_r _ [8, 9, 10, 7, 11] (by decide +kernel) (by decide +kernel)
set_option maxRecDepth 20000 in
theorem gX7_addActor_X7_areMeasures : GoodIn wsX7_addActor (va_wsS RX7 39 yX7_areMeasures wsX7_areMeasures) := goodIn_app (goodIn_of _ (by decide +kernel)) ggX7_addActor_X7_areMeasures
set_option maxRecDepth 20000 in
theorem ggX7_addActor_X2_remember : GoodIn wsX7_addActor wsX2_remember := goodIn_r _ [16, 17, 18, 19, 20, 21, 22, 23, 24, 25, 15, 26, 27, 28, 29, 30, 31, 32, 33, 34, 35, 36, 37, 38, 39, 40, 41, 42, 43, 44, 45, 46, 47, 48, 49, 50, 51, 52, 53, 54, 55, 56, 7, 57, 58, 59, 60, 61, 62, 63, 64, 65, 66, 67, 68, 69, 70, 71, 72, 73, 74, 75, 76, 77, 78, 79, 80, 81, 104, 105, 106, 92, 93, 94, 95, 96, 97, 98, 99, 100, 107, 108, 109, 110, 111, 112, 113, 114, 115, 101, 102, 103, 116, 117, 118, 119, 120, 121] (by decide +kernel) (by decide +kernel)
set_option maxRecDepth 20000 in
theorem gX7_addActor_X2_remember : GoodIn wsX7_addActor (wsV RX7 56 RX2 yX2_remember wsX2_remember) := goodIn_app (goodIn_of _ (by decide +kernel)) ggX7_addActor_X2_remember
set_option maxRecDepth 20000 in
theorem ggX7_addActor_X0_add : GoodIn wsX7_addActor wsX0_add := goodIn_r _ [85, 68, 69, 70, 86, 7, 87, 101, 102, 103] (by decide +kernel) (by decide +kernel)
set_option maxRecDepth 20000 in
theorem gX7_addActor_X0_add : GoodIn wsX7_addActor (wsV RX7 87 RX0 yX0_add wsX0_add) := goodIn_app (goodIn_of _ (by decide +kernel)) ggX7_addActor_X0_add
theorem dX7_addActor_0 : decode cX7_addActor 0 = .ok (.iload_n 1, 1) := by decide +kernel
theorem dX7_addActor_1 : decode cX7_addActor 1 = .ok (.iload_n 2, 1) := by decide +kernel
theorem dX7_addActor_2 : decode cX7_addActor 2 = .ok (.iload_n 3, 1) := by decide +kernel
theorem dX7_addActor_3 : decode cX7_addActor 3 = .ok (.invokestatic 39, 3) := by decide +kernel
theorem dX7_addActor_6 : decode cX7_addActor 6 = .ok (.ifCond .ne 7, 3) := by decide +kernel
theorem dX7_addActor_9 : decode cX7_addActor 9 = .ok (.sipush (-2001), 3) := by decide +kernel
theorem dX7_addActor_12 : decode cX7_addActor 12 = .ok (.ireturn, 1) := by decide +kernel
theorem dX7_addActor_13 : decode cX7_addActor 13 = .ok (.aload_n 0, 1) := by decide +kernel
theorem dX7_addActor_14 : decode cX7_addActor 14 = .ok (.getfield 10, 3) := by decide +kernel
theorem dX7_addActor_17 : decode cX7_addActor 17 = .ok (.getfield 80, 3) := by decide +kernel
theorem dX7_addActor_20 : decode cX7_addActor 20 = .ok (.getfield 84, 3) := by decide +kernel
theorem dX7_addActor_23 : decode cX7_addActor 23 = .ok (.bipush 8, 2) := by decide +kernel
theorem dX7_addActor_25 : decode cX7_addActor 25 = .ok (.if_icmp .lt 7, 3) := by decide +kernel
theorem dX7_addActor_28 : decode cX7_addActor 28 = .ok (.sipush (-2003), 3) := by decide +kernel
theorem dX7_addActor_31 : decode cX7_addActor 31 = .ok (.ireturn, 1) := by decide +kernel
theorem dX7_addActor_32 : decode cX7_addActor 32 = .ok (.aload_n 0, 1) := by decide +kernel
theorem dX7_addActor_33 : decode cX7_addActor 33 = .ok (.getfield 19, 3) := by decide +kernel
theorem dX7_addActor_36 : decode cX7_addActor 36 = .ok (.aload_n 0, 1) := by decide +kernel
theorem dX7_addActor_37 : decode cX7_addActor 37 = .ok (.getfield 10, 3) := by decide +kernel
theorem dX7_addActor_40 : decode cX7_addActor 40 = .ok (.invokevirtual 56, 3) := by decide +kernel
theorem dX7_addActor_43 : decode cX7_addActor 43 = .ok (.aload_n 0, 1) := by decide +kernel
theorem dX7_addActor_44 : decode cX7_addActor 44 = .ok (.getfield 10, 3) := by decide +kernel
theorem dX7_addActor_47 : decode cX7_addActor 47 = .ok (.getfield 80, 3) := by decide +kernel
theorem dX7_addActor_50 : decode cX7_addActor 50 = .ok (.iload_n 1, 1) := by decide +kernel
theorem dX7_addActor_51 : decode cX7_addActor 51 = .ok (.iload_n 2, 1) := by decide +kernel
theorem dX7_addActor_52 : decode cX7_addActor 52 = .ok (.iload_n 3, 1) := by decide +kernel
theorem dX7_addActor_53 : decode cX7_addActor 53 = .ok (.invokevirtual 87, 3) := by decide +kernel
theorem dX7_addActor_56 : decode cX7_addActor 56 = .ok (.ireturn, 1) := by decide +kernel
set_option maxRecDepth 20000 in
theorem ggX7_set_X7_isWithin : GoodIn wsX7_set wsX7_isWithin := goodIn_r _ [7] (by decide +kernel) (by decide +kernel)
set_option maxRecDepth 20000 in
theorem gX7_set_X7_isWithin : GoodIn wsX7_set (va_wsS RX7 43 yX7_isWithin wsX7_isWithin) := goodIn_app (goodIn_of _ (by decide +kernel)) ggX7_set_X7_isWithin
set_option maxRecDepth 20000 in
theorem ggX7_set_X7_isSetting : GoodIn wsX7_set wsX7_isSetting := goodIn_r _ [10, 4, 5, 6, 7] (by decide +kernel) (by decide +kernel)
set_option maxRecDepth 20000 in
theorem gX7_set_X7_isSetting : GoodIn wsX7_set (va_wsS RX7 90 yX7_isSetting wsX7_isSetting) := goodIn_app (goodIn_of _ (by decide +kernel)) ggX7_set_X7_isSetting
set_option maxRecDepth 20000 in
theorem ggX7_set_X2_remember : GoodIn wsX7_set wsX2_remember := goodIn_r _ [15, 16, 17, 18, 19, 20, 21, 22, 23, 24, 14, 25, 26, 27, 28, 29, 30, 31, 32, 33, 34, 35, 36, 37, 38, 39, 40, 41, 42, 43, 44, 45, 46, 47, 48, 49, 50, 51, 52, 53, 54, 55, 6, 56, 57, 58, 59, 60, 61, 62, 63, 64, 65, 66, 67, 68, 69, 70, 71, 72, 73, 74, 75, 76, 77, 78, 79, 80, 100, 101, 102, 91, 92, 93, 94, 95, 96, 97, 98, 99, 103, 104, 105, 106, 107, 108, 109, 110, 111, 112, 113, 114, 115, 116, 117, 118, 119, 120] (by decide +kernel) (by decide +kernel)
set_option maxRecDepth 20000 in
theorem gX7_set_X2_remember : GoodIn wsX7_set (wsV RX7 56 RX2 yX2_remember wsX2_remember) := goodIn_app (goodIn_of _ (by decide +kernel)) ggX7_set_X2_remember
set_option maxRecDepth 20000 in
theorem ggX7_set_X7_at : GoodIn wsX7_set wsX7_at := goodIn_r _ [83] (by decide +kernel) (by decide +kernel)
set_option maxRecDepth 20000 in
theorem gX7_set_X7_at : GoodIn wsX7_set (va_wsS RX7 72 yX7_at wsX7_at) := goodIn_app (goodIn_of _ (by decide +kernel)) ggX7_set_X7_at
set_option maxRecDepth 20000 in
theorem ggX7_set_X7_put : GoodIn wsX7_set wsX7_put := goodIn_r _ [86] (by decide +kernel) (by decide +kernel)
set_option maxRecDepth 20000 in
theorem gX7_set_X7_put : GoodIn wsX7_set (va_wsS RX7 76 yX7_put wsX7_put) := goodIn_app (goodIn_of _ (by decide +kernel)) ggX7_set_X7_put
theorem dX7_set_0 : decode cX7_set 0 = .ok (.iload_n 1, 1) := by decide +kernel
theorem dX7_set_1 : decode cX7_set 1 = .ok (.iconst 0, 1) := by decide +kernel
theorem dX7_set_2 : decode cX7_set 2 = .ok (.iconst 3, 1) := by decide +kernel
theorem dX7_set_3 : decode cX7_set 3 = .ok (.invokestatic 43, 3) := by decide +kernel
theorem dX7_set_6 : decode cX7_set 6 = .ok (.ifCond .eq 11, 3) := by decide +kernel
theorem dX7_set_9 : decode cX7_set 9 = .ok (.iload_n 1, 1) := by decide +kernel
theorem dX7_set_10 : decode cX7_set 10 = .ok (.iload_n 2, 1) := by decide +kernel
theorem dX7_set_11 : decode cX7_set 11 = .ok (.invokestatic 90, 3) := by decide +kernel
theorem dX7_set_14 : decode cX7_set 14 = .ok (.ifCond .ne 7, 3) := by decide +kernel
theorem dX7_set_17 : decode cX7_set 17 = .ok (.sipush (-2001), 3) := by decide +kernel
theorem dX7_set_20 : decode cX7_set 20 = .ok (.ireturn, 1) := by decide +kernel
theorem dX7_set_21 : decode cX7_set 21 = .ok (.aload_n 0, 1) := by decide +kernel
theorem dX7_set_22 : decode cX7_set 22 = .ok (.getfield 19, 3) := by decide +kernel
theorem dX7_set_25 : decode cX7_set 25 = .ok (.aload_n 0, 1) := by decide +kernel
theorem dX7_set_26 : decode cX7_set 26 = .ok (.getfield 10, 3) := by decide +kernel
theorem dX7_set_29 : decode cX7_set 29 = .ok (.invokevirtual 56, 3) := by decide +kernel
theorem dX7_set_32 : decode cX7_set 32 = .ok (.aload_n 0, 1) := by decide +kernel
theorem dX7_set_33 : decode cX7_set 33 = .ok (.getfield 10, 3) := by decide +kernel
theorem dX7_set_36 : decode cX7_set 36 = .ok (.getfield 94, 3) := by decide +kernel
theorem dX7_set_39 : decode cX7_set 39 = .ok (.iload_n 1, 1) := by decide +kernel
theorem dX7_set_40 : decode cX7_set 40 = .ok (.invokestatic 72, 3) := by decide +kernel
theorem dX7_set_43 : decode cX7_set 43 = .ok (.istore_n 3, 1) := by decide +kernel
theorem dX7_set_44 : decode cX7_set 44 = .ok (.aload_n 0, 1) := by decide +kernel
theorem dX7_set_45 : decode cX7_set 45 = .ok (.getfield 10, 3) := by decide +kernel
theorem dX7_set_48 : decode cX7_set 48 = .ok (.getfield 94, 3) := by decide +kernel
theorem dX7_set_51 : decode cX7_set 51 = .ok (.iload_n 1, 1) := by decide +kernel
theorem dX7_set_52 : decode cX7_set 52 = .ok (.iload_n 2, 1) := by decide +kernel
theorem dX7_set_53 : decode cX7_set 53 = .ok (.invokestatic 76, 3) := by decide +kernel
theorem dX7_set_56 : decode cX7_set 56 = .ok (.iload_n 3, 1) := by decide +kernel
theorem dX7_set_57 : decode cX7_set 57 = .ok (.ireturn, 1) := by decide +kernel
set_option maxRecDepth 20000 in
theorem ggX7_alter_X6_has : GoodIn wsX7_alter wsX6_has := goodIn_r _ [13, 14, 139, 140, 141, 142, 143, 144, 145, 146, 147] (by decide +kernel) (by decide +kernel)
set_option maxRecDepth 20000 in
theorem gX7_alter_X6_has : GoodIn wsX7_alter (wsV RX7 64 RX6 yX6_has wsX6_has) := goodIn_app (goodIn_of _ (by decide +kernel)) ggX7_alter_X6_has
set_option maxRecDepth 20000 in
theorem ggX7_alter_X7_isWithin : GoodIn wsX7_alter wsX7_isWithin := goodIn_r _ [18] (by decide +kernel) (by decide +kernel)
set_option maxRecDepth 20000 in
theorem gX7_alter_X7_isWithin : GoodIn wsX7_alter (va_wsS RX7 43 yX7_isWithin wsX7_isWithin) := goodIn_app (goodIn_of _ (by decide +kernel)) ggX7_alter_X7_isWithin
set_option maxRecDepth 20000 in
theorem ggX7_alter_X4_isAway : GoodIn wsX7_alter wsX4_isAway := goodIn_r _ [23, 24, 25, 26, 27, 28, 29, 30, 31, 32, 33, 34, 17, 35, 36, 37, 38, 39, 40, 130, 131, 132, 133, 134, 135, 136, 137, 138, 148, 149, 150, 151, 152, 153] (by decide +kernel) (by decide +kernel)
set_option maxRecDepth 20000 in
theorem gX7_alter_X4_isAway : GoodIn wsX7_alter (wsV RX7 97 RX4 yX4_isAway wsX4_isAway) := goodIn_app (goodIn_of _ (by decide +kernel)) ggX7_alter_X4_isAway
set_option maxRecDepth 20000 in
theorem ggX7_alter_X6_allows : GoodIn wsX7_alter wsX6_allows := goodIn_r _ [44, 45, 46, 47, 48, 12, 49, 50, 34, 17, 35, 51, 52, 53, 54, 55, 56, 57, 58, 59, 60, 61, 139, 140, 141, 142, 143, 144, 145, 146, 147] (by decide +kernel) (by decide +kernel)
set_option maxRecDepth 20000 in
theorem gX7_alter_X6_allows : GoodIn wsX7_alter (wsV RX7 100 RX6 yX6_allows wsX6_allows) := goodIn_app (goodIn_of _ (by decide +kernel)) ggX7_alter_X6_allows
set_option maxRecDepth 20000 in
theorem ggX7_alter_X6_roomForAlterations : GoodIn wsX7_alter wsX6_roomForAlterations := goodIn_r _ [65, 55, 34, 17, 35, 139, 140, 141, 142, 143, 144, 145, 146, 147] (by decide +kernel) (by decide +kernel)
set_option maxRecDepth 20000 in
theorem gX7_alter_X6_roomForAlterations : GoodIn wsX7_alter (wsV RX7 103 RX6 yX6_roomForAlterations wsX6_roomForAlterations) := goodIn_app (goodIn_of _ (by decide +kernel)) ggX7_alter_X6_roomForAlterations
set_option maxRecDepth 20000 in
theorem ggX7_alter_X2_remember : GoodIn wsX7_alter wsX2_remember := goodIn_r _ [70, 71, 72, 73, 74, 6, 75, 76, 77, 78, 69, 79, 80, 81, 82, 83, 22, 84, 85, 86, 24, 87, 25, 88, 89, 90, 91, 92, 93, 94, 12, 95, 14, 50, 45, 96, 97, 98, 55, 56, 57, 99, 17, 100, 101, 102, 103, 104, 105, 106, 107, 108, 109, 110, 111, 112, 113, 114, 115, 116, 29, 117, 31, 32, 33, 40, 118, 119, 154, 155, 156, 130, 131, 132, 133, 134, 135, 136, 137, 138, 139, 140, 141, 142, 143, 144, 145, 146, 147, 157, 158, 159, 148, 149, 150, 151, 152, 153] (by decide +kernel) (by decide +kernel)
set_option maxRecDepth 20000 in
theorem gX7_alter_X2_remember : GoodIn wsX7_alter (wsV RX7 56 RX2 yX2_remember wsX2_remember) := goodIn_app (goodIn_of _ (by decide +kernel)) ggX7_alter_X2_remember
set_option maxRecDepth 20000 in
theorem ggX7_alter_X6_addAlteration : GoodIn wsX7_alter wsX6_addAlteration := goodIn_r _ [123, 55, 56, 57, 34, 17, 35, 58, 59, 60, 12, 61, 124, 125, 139, 140, 141, 142, 143, 144, 145, 146, 147] (by decide +kernel) (by decide +kernel)
set_option maxRecDepth 20000 in
theorem gX7_alter_X6_addAlteration : GoodIn wsX7_alter (wsV RX7 107 RX6 yX6_addAlteration wsX6_addAlteration) := goodIn_app (goodIn_of _ (by decide +kernel)) ggX7_alter_X6_addAlteration
theorem dX7_alter_0 : decode cX7_alter 0 = .ok (.aload_n 0, 1) := by decide +kernel
theorem dX7_alter_1 : decode cX7_alter 1 = .ok (.getfield 10, 3) := by decide +kernel
theorem dX7_alter_4 : decode cX7_alter 4 = .ok (.getfield 46, 3) := by decide +kernel
theorem dX7_alter_7 : decode cX7_alter 7 = .ok (.iload_n 1, 1) := by decide +kernel
theorem dX7_alter_8 : decode cX7_alter 8 = .ok (.invokevirtual 64, 3) := by decide +kernel
theorem dX7_alter_11 : decode cX7_alter 11 = .ok (.ifCond .eq 27, 3) := by decide +kernel
theorem dX7_alter_14 : decode cX7_alter 14 = .ok (.iload_n 2, 1) := by decide +kernel
theorem dX7_alter_15 : decode cX7_alter 15 = .ok (.iconst 0, 1) := by decide +kernel
theorem dX7_alter_16 : decode cX7_alter 16 = .ok (.iconst 2, 1) := by decide +kernel
theorem dX7_alter_17 : decode cX7_alter 17 = .ok (.invokestatic 43, 3) := by decide +kernel
theorem dX7_alter_20 : decode cX7_alter 20 = .ok (.ifCond .eq 18, 3) := by decide +kernel
theorem dX7_alter_23 : decode cX7_alter 23 = .ok (.iload_n 3, 1) := by decide +kernel
theorem dX7_alter_24 : decode cX7_alter 24 = .ok (.bipush (-10), 2) := by decide +kernel
theorem dX7_alter_26 : decode cX7_alter 26 = .ok (.bipush 10, 2) := by decide +kernel
theorem dX7_alter_28 : decode cX7_alter 28 = .ok (.invokestatic 43, 3) := by decide +kernel
theorem dX7_alter_31 : decode cX7_alter 31 = .ok (.ifCond .eq 7, 3) := by decide +kernel
theorem dX7_alter_34 : decode cX7_alter 34 = .ok (.iload_n 3, 1) := by decide +kernel
theorem dX7_alter_35 : decode cX7_alter 35 = .ok (.ifCond .ne 7, 3) := by decide +kernel
theorem dX7_alter_38 : decode cX7_alter 38 = .ok (.sipush (-2001), 3) := by decide +kernel
theorem dX7_alter_41 : decode cX7_alter 41 = .ok (.ireturn, 1) := by decide +kernel
theorem dX7_alter_42 : decode cX7_alter 42 = .ok (.aload_n 0, 1) := by decide +kernel
theorem dX7_alter_43 : decode cX7_alter 43 = .ok (.getfield 10, 3) := by decide +kernel
theorem dX7_alter_46 : decode cX7_alter 46 = .ok (.iload_n 1, 1) := by decide +kernel
theorem dX7_alter_47 : decode cX7_alter 47 = .ok (.invokevirtual 97, 3) := by decide +kernel
theorem dX7_alter_50 : decode cX7_alter 50 = .ok (.ifCond .ne 19, 3) := by decide +kernel
theorem dX7_alter_53 : decode cX7_alter 53 = .ok (.aload_n 0, 1) := by decide +kernel
theorem dX7_alter_54 : decode cX7_alter 54 = .ok (.getfield 10, 3) := by decide +kernel
theorem dX7_alter_57 : decode cX7_alter 57 = .ok (.getfield 46, 3) := by decide +kernel
theorem dX7_alter_60 : decode cX7_alter 60 = .ok (.iload_n 1, 1) := by decide +kernel
theorem dX7_alter_61 : decode cX7_alter 61 = .ok (.iload_n 2, 1) := by decide +kernel
theorem dX7_alter_62 : decode cX7_alter 62 = .ok (.iload_n 3, 1) := by decide +kernel
theorem dX7_alter_63 : decode cX7_alter 63 = .ok (.invokevirtual 100, 3) := by decide +kernel
theorem dX7_alter_66 : decode cX7_alter 66 = .ok (.ifCond .ne 7, 3) := by decide +kernel
theorem dX7_alter_69 : decode cX7_alter 69 = .ok (.sipush (-2002), 3) := by decide +kernel
theorem dX7_alter_72 : decode cX7_alter 72 = .ok (.ireturn, 1) := by decide +kernel
theorem dX7_alter_73 : decode cX7_alter 73 = .ok (.aload_n 0, 1) := by decide +kernel
theorem dX7_alter_74 : decode cX7_alter 74 = .ok (.getfield 10, 3) := by decide +kernel
theorem dX7_alter_77 : decode cX7_alter 77 = .ok (.getfield 46, 3) := by decide +kernel
theorem dX7_alter_80 : decode cX7_alter 80 = .ok (.iload_n 1, 1) := by decide +kernel
theorem dX7_alter_81 : decode cX7_alter 81 = .ok (.invokevirtual 103, 3) := by decide +kernel
theorem dX7_alter_84 : decode cX7_alter 84 = .ok (.ifCond .gt 7, 3) := by decide +kernel
theorem dX7_alter_87 : decode cX7_alter 87 = .ok (.sipush (-2003), 3) := by decide +kernel
theorem dX7_alter_90 : decode cX7_alter 90 = .ok (.ireturn, 1) := by decide +kernel
theorem dX7_alter_91 : decode cX7_alter 91 = .ok (.aload_n 0, 1) := by decide +kernel
theorem dX7_alter_92 : decode cX7_alter 92 = .ok (.getfield 19, 3) := by decide +kernel
theorem dX7_alter_95 : decode cX7_alter 95 = .ok (.aload_n 0, 1) := by decide +kernel
theorem dX7_alter_96 : decode cX7_alter 96 = .ok (.getfield 10, 3) := by decide +kernel
theorem dX7_alter_99 : decode cX7_alter 99 = .ok (.invokevirtual 56, 3) := by decide +kernel
theorem dX7_alter_102 : decode cX7_alter 102 = .ok (.aload_n 0, 1) := by decide +kernel
theorem dX7_alter_103 : decode cX7_alter 103 = .ok (.getfield 10, 3) := by decide +kernel
theorem dX7_alter_106 : decode cX7_alter 106 = .ok (.getfield 46, 3) := by decide +kernel
theorem dX7_alter_109 : decode cX7_alter 109 = .ok (.iload_n 1, 1) := by decide +kernel
theorem dX7_alter_110 : decode cX7_alter 110 = .ok (.iload_n 2, 1) := by decide +kernel
theorem dX7_alter_111 : decode cX7_alter 111 = .ok (.iload_n 3, 1) := by decide +kernel
theorem dX7_alter_112 : decode cX7_alter 112 = .ok (.invokevirtual 107, 3) := by decide +kernel
theorem dX7_alter_115 : decode cX7_alter 115 = .ok (.bipush 10, 2) := by decide +kernel
theorem dX7_alter_117 : decode cX7_alter 117 = .ok (.iconst 5, 1) := by decide +kernel
theorem dX7_alter_118 : decode cX7_alter 118 = .ok (.iload_n 3, 1) := by decide +kernel
theorem dX7_alter_119 : decode cX7_alter 119 = .ok (.invokestatic 111, 3) := by decide +kernel
theorem dX7_alter_122 : decode cX7_alter 122 = .ok (.imul, 1) := by decide +kernel
theorem dX7_alter_123 : decode cX7_alter 123 = .ok (.iadd, 1) := by decide +kernel
theorem dX7_alter_124 : decode cX7_alter 124 = .ok (.istore 4, 2) := by decide +kernel
theorem dX7_alter_126 : decode cX7_alter 126 = .ok (.aload_n 0, 1) := by decide +kernel
theorem dX7_alter_127 : decode cX7_alter 127 = .ok (.getfield 10, 3) := by decide +kernel
theorem dX7_alter_130 : decode cX7_alter 130 = .ok (.dup, 1) := by decide +kernel
theorem dX7_alter_131 : decode cX7_alter 131 = .ok (.getfield 116, 3) := by decide +kernel
theorem dX7_alter_134 : decode cX7_alter 134 = .ok (.iload 4, 2) := by decide +kernel
theorem dX7_alter_136 : decode cX7_alter 136 = .ok (.iadd, 1) := by decide +kernel
theorem dX7_alter_137 : decode cX7_alter 137 = .ok (.putfield 116, 3) := by decide +kernel
theorem dX7_alter_140 : decode cX7_alter 140 = .ok (.iload 4, 2) := by decide +kernel
theorem dX7_alter_142 : decode cX7_alter 142 = .ok (.ireturn, 1) := by decide +kernel
set_option maxRecDepth 20000 in
theorem ggX7_unpick_X6_has : GoodIn wsX7_unpick wsX6_has := goodIn_r _ [14, 15, 122, 123, 124, 125, 126, 127, 128, 129, 130] (by decide +kernel) (by decide +kernel)
set_option maxRecDepth 20000 in
theorem gX7_unpick_X6_has : GoodIn wsX7_unpick (wsV RX7 64 RX6 yX6_has wsX6_has) := goodIn_app (goodIn_of _ (by decide +kernel)) ggX7_unpick_X6_has
set_option maxRecDepth 20000 in
theorem ggX7_unpick_X4_isAway : GoodIn wsX7_unpick wsX4_isAway := goodIn_r _ [20, 21, 22, 23, 24, 25, 26, 27, 28, 29, 30, 31, 32, 33, 34, 35, 36, 37, 38, 113, 114, 115, 116, 117, 118, 119, 120, 121, 131, 132, 133, 134, 135, 136] (by decide +kernel) (by decide +kernel)
set_option maxRecDepth 20000 in
theorem gX7_unpick_X4_isAway : GoodIn wsX7_unpick (wsV RX7 97 RX4 yX4_isAway wsX4_isAway) := goodIn_app (goodIn_of _ (by decide +kernel)) ggX7_unpick_X4_isAway
set_option maxRecDepth 20000 in
theorem ggX7_unpick_X7_at : GoodIn wsX7_unpick wsX7_at := goodIn_r _ [33] (by decide +kernel) (by decide +kernel)
set_option maxRecDepth 20000 in
theorem gX7_unpick_X7_at : GoodIn wsX7_unpick (va_wsS RX7 72 yX7_at wsX7_at) := goodIn_app (goodIn_of _ (by decide +kernel)) ggX7_unpick_X7_at
set_option maxRecDepth 20000 in
theorem ggX7_unpick_X2_remember : GoodIn wsX7_unpick wsX2_remember := goodIn_r _ [44, 45, 46, 47, 48, 7, 49, 50, 51, 52, 43, 53, 54, 55, 56, 57, 19, 58, 59, 60, 21, 61, 22, 62, 63, 64, 65, 66, 67, 68, 13, 69, 15, 70, 71, 72, 73, 74, 75, 76, 77, 78, 32, 79, 80, 81, 82, 83, 84, 85, 86, 87, 88, 89, 90, 91, 92, 93, 94, 95, 26, 96, 28, 29, 30, 38, 97, 98, 137, 138, 139, 113, 114, 115, 116, 117, 118, 119, 120, 121, 122, 123, 124, 125, 126, 127, 128, 129, 130, 140, 141, 142, 131, 132, 133, 134, 135, 136] (by decide +kernel) (by decide +kernel)
set_option maxRecDepth 20000 in
theorem gX7_unpick_X2_remember : GoodIn wsX7_unpick (wsV RX7 56 RX2 yX2_remember wsX2_remember) := goodIn_app (goodIn_of _ (by decide +kernel)) ggX7_unpick_X2_remember
set_option maxRecDepth 20000 in
theorem ggX7_unpick_X6_removeAlteration : GoodIn wsX7_unpick wsX6_removeAlteration := goodIn_r _ [102, 75, 77, 31, 32, 33, 103, 104, 105, 106, 107, 13, 108, 122, 123, 124, 125, 126, 127, 128, 129, 130] (by decide +kernel) (by decide +kernel)
set_option maxRecDepth 20000 in
theorem gX7_unpick_X6_removeAlteration : GoodIn wsX7_unpick (wsV RX7 122 RX6 yX6_removeAlteration wsX6_removeAlteration) := goodIn_app (goodIn_of _ (by decide +kernel)) ggX7_unpick_X6_removeAlteration
theorem dX7_unpick_0 : decode cX7_unpick 0 = .ok (.aload_n 0, 1) := by decide +kernel
theorem dX7_unpick_1 : decode cX7_unpick 1 = .ok (.getfield 10, 3) := by decide +kernel
theorem dX7_unpick_4 : decode cX7_unpick 4 = .ok (.getfield 46, 3) := by decide +kernel
theorem dX7_unpick_7 : decode cX7_unpick 7 = .ok (.iload_n 1, 1) := by decide +kernel
theorem dX7_unpick_8 : decode cX7_unpick 8 = .ok (.invokevirtual 64, 3) := by decide +kernel
theorem dX7_unpick_11 : decode cX7_unpick 11 = .ok (.ifCond .ne 7, 3) := by decide +kernel
theorem dX7_unpick_14 : decode cX7_unpick 14 = .ok (.sipush (-2001), 3) := by decide +kernel
theorem dX7_unpick_17 : decode cX7_unpick 17 = .ok (.ireturn, 1) := by decide +kernel
theorem dX7_unpick_18 : decode cX7_unpick 18 = .ok (.aload_n 0, 1) := by decide +kernel
theorem dX7_unpick_19 : decode cX7_unpick 19 = .ok (.getfield 10, 3) := by decide +kernel
theorem dX7_unpick_22 : decode cX7_unpick 22 = .ok (.iload_n 1, 1) := by decide +kernel
theorem dX7_unpick_23 : decode cX7_unpick 23 = .ok (.invokevirtual 97, 3) := by decide +kernel
theorem dX7_unpick_26 : decode cX7_unpick 26 = .ok (.ifCond .ne 20, 3) := by decide +kernel
theorem dX7_unpick_29 : decode cX7_unpick 29 = .ok (.aload_n 0, 1) := by decide +kernel
theorem dX7_unpick_30 : decode cX7_unpick 30 = .ok (.getfield 10, 3) := by decide +kernel
theorem dX7_unpick_33 : decode cX7_unpick 33 = .ok (.getfield 46, 3) := by decide +kernel
theorem dX7_unpick_36 : decode cX7_unpick 36 = .ok (.getfield 119, 3) := by decide +kernel
theorem dX7_unpick_39 : decode cX7_unpick 39 = .ok (.iload_n 1, 1) := by decide +kernel
theorem dX7_unpick_40 : decode cX7_unpick 40 = .ok (.invokestatic 72, 3) := by decide +kernel
theorem dX7_unpick_43 : decode cX7_unpick 43 = .ok (.ifCond .gt 7, 3) := by decide +kernel
theorem dX7_unpick_46 : decode cX7_unpick 46 = .ok (.sipush (-2002), 3) := by decide +kernel
theorem dX7_unpick_49 : decode cX7_unpick 49 = .ok (.ireturn, 1) := by decide +kernel
theorem dX7_unpick_50 : decode cX7_unpick 50 = .ok (.aload_n 0, 1) := by decide +kernel
theorem dX7_unpick_51 : decode cX7_unpick 51 = .ok (.getfield 19, 3) := by decide +kernel
theorem dX7_unpick_54 : decode cX7_unpick 54 = .ok (.aload_n 0, 1) := by decide +kernel
theorem dX7_unpick_55 : decode cX7_unpick 55 = .ok (.getfield 10, 3) := by decide +kernel
theorem dX7_unpick_58 : decode cX7_unpick 58 = .ok (.invokevirtual 56, 3) := by decide +kernel
theorem dX7_unpick_61 : decode cX7_unpick 61 = .ok (.aload_n 0, 1) := by decide +kernel
theorem dX7_unpick_62 : decode cX7_unpick 62 = .ok (.getfield 10, 3) := by decide +kernel
theorem dX7_unpick_65 : decode cX7_unpick 65 = .ok (.getfield 46, 3) := by decide +kernel
theorem dX7_unpick_68 : decode cX7_unpick 68 = .ok (.iload_n 1, 1) := by decide +kernel
theorem dX7_unpick_69 : decode cX7_unpick 69 = .ok (.invokevirtual 122, 3) := by decide +kernel
theorem dX7_unpick_72 : decode cX7_unpick 72 = .ok (.istore_n 2, 1) := by decide +kernel
theorem dX7_unpick_73 : decode cX7_unpick 73 = .ok (.iconst 5, 1) := by decide +kernel
theorem dX7_unpick_74 : decode cX7_unpick 74 = .ok (.iconst 2, 1) := by decide +kernel
theorem dX7_unpick_75 : decode cX7_unpick 75 = .ok (.iload_n 2, 1) := by decide +kernel
theorem dX7_unpick_76 : decode cX7_unpick 76 = .ok (.invokestatic 111, 3) := by decide +kernel
theorem dX7_unpick_79 : decode cX7_unpick 79 = .ok (.imul, 1) := by decide +kernel
theorem dX7_unpick_80 : decode cX7_unpick 80 = .ok (.iadd, 1) := by decide +kernel
theorem dX7_unpick_81 : decode cX7_unpick 81 = .ok (.istore_n 3, 1) := by decide +kernel
theorem dX7_unpick_82 : decode cX7_unpick 82 = .ok (.aload_n 0, 1) := by decide +kernel
theorem dX7_unpick_83 : decode cX7_unpick 83 = .ok (.getfield 10, 3) := by decide +kernel
theorem dX7_unpick_86 : decode cX7_unpick 86 = .ok (.dup, 1) := by decide +kernel
theorem dX7_unpick_87 : decode cX7_unpick 87 = .ok (.getfield 116, 3) := by decide +kernel
theorem dX7_unpick_90 : decode cX7_unpick 90 = .ok (.iload_n 3, 1) := by decide +kernel
theorem dX7_unpick_91 : decode cX7_unpick 91 = .ok (.iadd, 1) := by decide +kernel
theorem dX7_unpick_92 : decode cX7_unpick 92 = .ok (.putfield 116, 3) := by decide +kernel
theorem dX7_unpick_95 : decode cX7_unpick 95 = .ok (.iload_n 3, 1) := by decide +kernel
theorem dX7_unpick_96 : decode cX7_unpick 96 = .ok (.ireturn, 1) := by decide +kernel
set_option maxRecDepth 20000 in
theorem ggX7_append_X7_isWithin : GoodIn wsX7_append wsX7_isWithin := goodIn_r _ [6] (by decide +kernel) (by decide +kernel)
set_option maxRecDepth 20000 in
theorem gX7_append_X7_isWithin : GoodIn wsX7_append (va_wsS RX7 43 yX7_isWithin wsX7_isWithin) := goodIn_app (goodIn_of _ (by decide +kernel)) ggX7_append_X7_isWithin
set_option maxRecDepth 20000 in
theorem ggX7_append_X5_add : GoodIn wsX7_append wsX5_add := goodIn_r _ [11, 12, 13, 14, 5, 15, 20, 21] (by decide +kernel) (by decide +kernel)
set_option maxRecDepth 20000 in
theorem gX7_append_X5_add : GoodIn wsX7_append (wsV RX7 128 RX5 yX5_add wsX5_add) := goodIn_app (goodIn_of _ (by decide +kernel)) ggX7_append_X5_add
theorem dX7_append_0 : decode cX7_append 0 = .ok (.iload_n 1, 1) := by decide +kernel
theorem dX7_append_1 : decode cX7_append 1 = .ok (.iconst 1, 1) := by decide +kernel
theorem dX7_append_2 : decode cX7_append 2 = .ok (.sipush 255, 3) := by decide +kernel
theorem dX7_append_5 : decode cX7_append 5 = .ok (.invokestatic 43, 3) := by decide +kernel
theorem dX7_append_8 : decode cX7_append 8 = .ok (.ifCond .ne 7, 3) := by decide +kernel
theorem dX7_append_11 : decode cX7_append 11 = .ok (.sipush (-2001), 3) := by decide +kernel
theorem dX7_append_14 : decode cX7_append 14 = .ok (.ireturn, 1) := by decide +kernel
theorem dX7_append_15 : decode cX7_append 15 = .ok (.aload_n 0, 1) := by decide +kernel
theorem dX7_append_16 : decode cX7_append 16 = .ok (.getfield 26, 3) := by decide +kernel
theorem dX7_append_19 : decode cX7_append 19 = .ok (.getfield 125, 3) := by decide +kernel
theorem dX7_append_22 : decode cX7_append 22 = .ok (.bipush 120, 2) := by decide +kernel
theorem dX7_append_24 : decode cX7_append 24 = .ok (.if_icmp .lt 7, 3) := by decide +kernel
theorem dX7_append_27 : decode cX7_append 27 = .ok (.sipush (-2003), 3) := by decide +kernel
theorem dX7_append_30 : decode cX7_append 30 = .ok (.ireturn, 1) := by decide +kernel
theorem dX7_append_31 : decode cX7_append 31 = .ok (.aload_n 0, 1) := by decide +kernel
theorem dX7_append_32 : decode cX7_append 32 = .ok (.getfield 26, 3) := by decide +kernel
theorem dX7_append_35 : decode cX7_append 35 = .ok (.iload_n 1, 1) := by decide +kernel
theorem dX7_append_36 : decode cX7_append 36 = .ok (.invokevirtual 128, 3) := by decide +kernel
theorem dX7_append_39 : decode cX7_append 39 = .ok (.ireturn, 1) := by decide +kernel
set_option maxRecDepth 20000 in
theorem ggX7_clearText_X5_empty : GoodIn wsX7_clearText wsX5_empty := goodIn_r _ [6, 7, 12, 13] (by decide +kernel) (by decide +kernel)
set_option maxRecDepth 20000 in
theorem gX7_clearText_X5_empty : GoodIn wsX7_clearText (wsV RX7 130 RX5 yX5_empty wsX5_empty) := goodIn_app (goodIn_of _ (by decide +kernel)) ggX7_clearText_X5_empty
theorem dX7_clearText_0 : decode cX7_clearText 0 = .ok (.aload_n 0, 1) := by decide +kernel
theorem dX7_clearText_1 : decode cX7_clearText 1 = .ok (.getfield 26, 3) := by decide +kernel
theorem dX7_clearText_4 : decode cX7_clearText 4 = .ok (.invokevirtual 130, 3) := by decide +kernel
theorem dX7_clearText_7 : decode cX7_clearText 7 = .ok (.ireturn, 1) := by decide +kernel
set_option maxRecDepth 20000 in
theorem ggX7_load_X3_readAll : GoodIn wsX7_load wsX3_readAll := goodIn_r _ [15, 16, 17, 18, 19, 20, 21, 22, 23, 14, 24, 25, 26, 27, 28, 29, 30, 31, 32, 33, 34, 35, 36, 37, 38, 39, 40, 41, 42, 43, 44, 45, 46, 47, 48, 49, 50, 51, 52, 53, 54, 55, 56, 57, 58, 59, 60, 61, 62, 63, 64, 65, 66, 67, 68, 69, 70, 71, 72, 73, 74, 75, 76, 77, 78, 79, 80, 81, 82, 83, 84, 85, 86, 87, 88, 89, 90, 91, 92, 93, 94, 95, 96, 97, 98, 99, 100, 101, 102, 103, 104, 105, 106, 107, 108, 109, 110, 111, 112, 113, 114, 115, 116, 231, 232, 233, 234, 235, 236, 237, 238, 239, 240] (by decide +kernel) (by decide +kernel)
set_option maxRecDepth 20000 in
theorem gX7_load_X3_readAll : GoodIn wsX7_load (wsV RX7 134 RX3 yX3_readAll wsX3_readAll) := goodIn_app (goodIn_of _ (by decide +kernel)) ggX7_load_X3_readAll
set_option maxRecDepth 20000 in
theorem ggX7_load_X2_remember : GoodIn wsX7_load wsX2_remember := goodIn_r _ [121, 122, 123, 124, 111, 112, 113, 125, 126, 127, 120, 128, 129, 130, 131, 132, 133, 134, 135, 136, 137, 138, 139, 140, 141, 142, 143, 144, 145, 146, 147, 148, 149, 150, 151, 152, 153, 154, 155, 156, 157, 158, 30, 159, 160, 161, 162, 163, 164, 165, 166, 167, 168, 169, 170, 171, 172, 173, 174, 175, 176, 177, 178, 179, 180, 181, 182, 183, 241, 242, 243, 210, 211, 212, 213, 214, 215, 216, 217, 218, 219, 220, 221, 222, 223, 224, 225, 226, 227, 228, 229, 230, 244, 245, 246, 247, 248, 249] (by decide +kernel) (by decide +kernel)
set_option maxRecDepth 20000 in
theorem gX7_load_X2_remember : GoodIn wsX7_load (wsV RX7 56 RX2 yX2_remember wsX2_remember) := goodIn_app (goodIn_of _ (by decide +kernel)) ggX7_load_X2_remember
set_option maxRecDepth 20000 in
theorem ggX7_load_X7_addItem : GoodIn wsX7_load wsX7_addItem := goodIn_r _ [187, 1, 2, 5, 3, 188, 189, 190, 14, 191, 103, 29, 30, 31, 192, 193, 194, 168, 195, 170, 171, 172, 104, 105, 196, 197, 198, 147, 199, 149, 150, 151, 152, 153, 154, 155, 206, 207, 208, 209, 210, 211, 212, 213, 214, 215, 216, 217, 218, 231, 232, 233, 234, 235, 236, 237, 238, 228, 229, 230, 219, 220, 221, 222, 223, 224, 225, 226, 227] (by decide +kernel) (by decide +kernel)
set_option maxRecDepth 20000 in
theorem gX7_load_X7_addItem : GoodIn wsX7_load (wsV RX7 143 RX7 yX7_addItem wsX7_addItem) := goodIn_app (goodIn_of _ (by decide +kernel)) ggX7_load_X7_addItem
set_option maxRecDepth 20000 in
theorem ggX7_load_X5_empty : GoodIn wsX7_load wsX5_empty := goodIn_r _ [204, 205, 239, 240] (by decide +kernel) (by decide +kernel)
set_option maxRecDepth 20000 in
theorem gX7_load_X5_empty : GoodIn wsX7_load (wsV RX7 130 RX5 yX5_empty wsX5_empty) := goodIn_app (goodIn_of _ (by decide +kernel)) ggX7_load_X5_empty
theorem dX7_load_0 : decode cX7_load 0 = .ok (.aload_n 0, 1) := by decide +kernel
theorem dX7_load_1 : decode cX7_load 1 = .ok (.getfield 35, 3) := by decide +kernel
theorem dX7_load_4 : decode cX7_load 4 = .ok (.aload_n 0, 1) := by decide +kernel
theorem dX7_load_5 : decode cX7_load 5 = .ok (.getfield 10, 3) := by decide +kernel
theorem dX7_load_8 : decode cX7_load 8 = .ok (.getfield 46, 3) := by decide +kernel
theorem dX7_load_11 : decode cX7_load 11 = .ok (.getfield 50, 3) := by decide +kernel
theorem dX7_load_14 : decode cX7_load 14 = .ok (.aload_n 0, 1) := by decide +kernel
theorem dX7_load_15 : decode cX7_load 15 = .ok (.getfield 10, 3) := by decide +kernel
theorem dX7_load_18 : decode cX7_load 18 = .ok (.getfield 80, 3) := by decide +kernel
theorem dX7_load_21 : decode cX7_load 21 = .ok (.getfield 84, 3) := by decide +kernel
theorem dX7_load_24 : decode cX7_load 24 = .ok (.invokevirtual 134, 3) := by decide +kernel
theorem dX7_load_27 : decode cX7_load 27 = .ok (.ifCond .ne 15, 3) := by decide +kernel
theorem dX7_load_30 : decode cX7_load 30 = .ok (.sipush (-10000), 3) := by decide +kernel
theorem dX7_load_33 : decode cX7_load 33 = .ok (.aload_n 0, 1) := by decide +kernel
theorem dX7_load_34 : decode cX7_load 34 = .ok (.getfield 35, 3) := by decide +kernel
theorem dX7_load_37 : decode cX7_load 37 = .ok (.getfield 137, 3) := by decide +kernel
theorem dX7_load_40 : decode cX7_load 40 = .ok (.isub, 1) := by decide +kernel
theorem dX7_load_41 : decode cX7_load 41 = .ok (.ireturn, 1) := by decide +kernel
theorem dX7_load_42 : decode cX7_load 42 = .ok (.aload_n 0, 1) := by decide +kernel
theorem dX7_load_43 : decode cX7_load 43 = .ok (.getfield 19, 3) := by decide +kernel
theorem dX7_load_46 : decode cX7_load 46 = .ok (.aload_n 0, 1) := by decide +kernel
theorem dX7_load_47 : decode cX7_load 47 = .ok (.getfield 10, 3) := by decide +kernel
theorem dX7_load_50 : decode cX7_load 50 = .ok (.invokevirtual 56, 3) := by decide +kernel
theorem dX7_load_53 : decode cX7_load 53 = .ok (.iconst 0, 1) := by decide +kernel
theorem dX7_load_54 : decode cX7_load 54 = .ok (.istore_n 1, 1) := by decide +kernel
theorem dX7_load_55 : decode cX7_load 55 = .ok (.iload_n 1, 1) := by decide +kernel
theorem dX7_load_56 : decode cX7_load 56 = .ok (.aload_n 0, 1) := by decide +kernel
theorem dX7_load_57 : decode cX7_load 57 = .ok (.getfield 35, 3) := by decide +kernel
theorem dX7_load_60 : decode cX7_load 60 = .ok (.getfield 140, 3) := by decide +kernel
theorem dX7_load_63 : decode cX7_load 63 = .ok (.if_icmp .ge 14, 3) := by decide +kernel
theorem dX7_load_66 : decode cX7_load 66 = .ok (.aload_n 0, 1) := by decide +kernel
theorem dX7_load_67 : decode cX7_load 67 = .ok (.iload_n 1, 1) := by decide +kernel
theorem dX7_load_68 : decode cX7_load 68 = .ok (.invokevirtual 143, 3) := by decide +kernel
theorem dX7_load_71 : decode cX7_load 71 = .ok (.iinc 1 1, 3) := by decide +kernel
theorem dX7_load_74 : decode cX7_load 74 = .ok (.goto (-19), 3) := by decide +kernel
theorem dX7_load_77 : decode cX7_load 77 = .ok (.aload_n 0, 1) := by decide +kernel
theorem dX7_load_78 : decode cX7_load 78 = .ok (.getfield 26, 3) := by decide +kernel
theorem dX7_load_81 : decode cX7_load 81 = .ok (.invokevirtual 130, 3) := by decide +kernel
theorem dX7_load_84 : decode cX7_load 84 = .ok (.pop, 1) := by decide +kernel
theorem dX7_load_85 : decode cX7_load 85 = .ok (.aload_n 0, 1) := by decide +kernel
theorem dX7_load_86 : decode cX7_load 86 = .ok (.getfield 35, 3) := by decide +kernel
theorem dX7_load_89 : decode cX7_load 89 = .ok (.getfield 140, 3) := by decide +kernel
theorem dX7_load_92 : decode cX7_load 92 = .ok (.ireturn, 1) := by decide +kernel
set_option maxRecDepth 20000 in
theorem ggX7_addItem_X3_part : GoodIn wsX7_addItem wsX3_part := goodIn_r _ [9, 10, 11, 12, 13, 49, 50, 51, 52, 53, 54, 55, 56] (by decide +kernel) (by decide +kernel)
set_option maxRecDepth 20000 in
theorem gX7_addItem_X3_part : GoodIn wsX7_addItem (wsV RX7 147 RX3 yX3_part wsX3_part) := goodIn_app (goodIn_of _ (by decide +kernel)) ggX7_addItem_X3_part
set_option maxRecDepth 20000 in
theorem ggX7_addItem_X0_add : GoodIn wsX7_addItem wsX0_add := goodIn_r _ [18, 19, 20, 21, 22, 12, 23, 57, 58, 59] (by decide +kernel) (by decide +kernel)
set_option maxRecDepth 20000 in
theorem gX7_addItem_X0_add : GoodIn wsX7_addItem (wsV RX7 87 RX0 yX0_add wsX0_add) := goodIn_app (goodIn_of _ (by decide +kernel)) ggX7_addItem_X0_add
set_option maxRecDepth 20000 in
theorem ggX7_addItem_X6_add : GoodIn wsX7_addItem wsX6_add := goodIn_r _ [28, 29, 30, 31, 32, 33, 34, 35, 22, 12, 23, 60, 61, 62, 63, 64, 65, 66, 67, 68] (by decide +kernel) (by decide +kernel)
set_option maxRecDepth 20000 in
theorem gX7_addItem_X6_add : GoodIn wsX7_addItem (wsV RX7 60 RX6 yX6_add wsX6_add) := goodIn_app (goodIn_of _ (by decide +kernel)) ggX7_addItem_X6_add
theorem dX7_addItem_0 : decode cX7_addItem 0 = .ok (.aload_n 0, 1) := by decide +kernel
theorem dX7_addItem_1 : decode cX7_addItem 1 = .ok (.getfield 35, 3) := by decide +kernel
theorem dX7_addItem_4 : decode cX7_addItem 4 = .ok (.iload_n 1, 1) := by decide +kernel
theorem dX7_addItem_5 : decode cX7_addItem 5 = .ok (.iconst 1, 1) := by decide +kernel
theorem dX7_addItem_6 : decode cX7_addItem 6 = .ok (.invokevirtual 147, 3) := by decide +kernel
theorem dX7_addItem_9 : decode cX7_addItem 9 = .ok (.istore_n 2, 1) := by decide +kernel
theorem dX7_addItem_10 : decode cX7_addItem 10 = .ok (.aload_n 0, 1) := by decide +kernel
theorem dX7_addItem_11 : decode cX7_addItem 11 = .ok (.getfield 35, 3) := by decide +kernel
theorem dX7_addItem_14 : decode cX7_addItem 14 = .ok (.iload_n 1, 1) := by decide +kernel
theorem dX7_addItem_15 : decode cX7_addItem 15 = .ok (.iconst 2, 1) := by decide +kernel
theorem dX7_addItem_16 : decode cX7_addItem 16 = .ok (.invokevirtual 147, 3) := by decide +kernel
theorem dX7_addItem_19 : decode cX7_addItem 19 = .ok (.istore_n 3, 1) := by decide +kernel
theorem dX7_addItem_20 : decode cX7_addItem 20 = .ok (.aload_n 0, 1) := by decide +kernel
theorem dX7_addItem_21 : decode cX7_addItem 21 = .ok (.getfield 35, 3) := by decide +kernel
theorem dX7_addItem_24 : decode cX7_addItem 24 = .ok (.iload_n 1, 1) := by decide +kernel
theorem dX7_addItem_25 : decode cX7_addItem 25 = .ok (.iconst 3, 1) := by decide +kernel
theorem dX7_addItem_26 : decode cX7_addItem 26 = .ok (.invokevirtual 147, 3) := by decide +kernel
theorem dX7_addItem_29 : decode cX7_addItem 29 = .ok (.istore 4, 2) := by decide +kernel
theorem dX7_addItem_31 : decode cX7_addItem 31 = .ok (.aload_n 0, 1) := by decide +kernel
theorem dX7_addItem_32 : decode cX7_addItem 32 = .ok (.getfield 35, 3) := by decide +kernel
theorem dX7_addItem_35 : decode cX7_addItem 35 = .ok (.iload_n 1, 1) := by decide +kernel
theorem dX7_addItem_36 : decode cX7_addItem 36 = .ok (.iconst 0, 1) := by decide +kernel
theorem dX7_addItem_37 : decode cX7_addItem 37 = .ok (.invokevirtual 147, 3) := by decide +kernel
theorem dX7_addItem_40 : decode cX7_addItem 40 = .ok (.iconst 1, 1) := by decide +kernel
theorem dX7_addItem_41 : decode cX7_addItem 41 = .ok (.if_icmp .ne 21, 3) := by decide +kernel
theorem dX7_addItem_44 : decode cX7_addItem 44 = .ok (.aload_n 0, 1) := by decide +kernel
theorem dX7_addItem_45 : decode cX7_addItem 45 = .ok (.getfield 10, 3) := by decide +kernel
theorem dX7_addItem_48 : decode cX7_addItem 48 = .ok (.getfield 80, 3) := by decide +kernel
theorem dX7_addItem_51 : decode cX7_addItem 51 = .ok (.iload_n 2, 1) := by decide +kernel
theorem dX7_addItem_52 : decode cX7_addItem 52 = .ok (.iload_n 3, 1) := by decide +kernel
theorem dX7_addItem_53 : decode cX7_addItem 53 = .ok (.iload 4, 2) := by decide +kernel
theorem dX7_addItem_55 : decode cX7_addItem 55 = .ok (.invokevirtual 87, 3) := by decide +kernel
theorem dX7_addItem_58 : decode cX7_addItem 58 = .ok (.pop, 1) := by decide +kernel
theorem dX7_addItem_59 : decode cX7_addItem 59 = .ok (.goto 46, 3) := by decide +kernel
theorem dX7_addItem_62 : decode cX7_addItem 62 = .ok (.aload_n 0, 1) := by decide +kernel
theorem dX7_addItem_63 : decode cX7_addItem 63 = .ok (.getfield 10, 3) := by decide +kernel
theorem dX7_addItem_66 : decode cX7_addItem 66 = .ok (.getfield 46, 3) := by decide +kernel
theorem dX7_addItem_69 : decode cX7_addItem 69 = .ok (.iload_n 2, 1) := by decide +kernel
theorem dX7_addItem_70 : decode cX7_addItem 70 = .ok (.iload_n 3, 1) := by decide +kernel
theorem dX7_addItem_71 : decode cX7_addItem 71 = .ok (.iload 4, 2) := by decide +kernel
theorem dX7_addItem_73 : decode cX7_addItem 73 = .ok (.aload_n 0, 1) := by decide +kernel
theorem dX7_addItem_74 : decode cX7_addItem 74 = .ok (.getfield 35, 3) := by decide +kernel
theorem dX7_addItem_77 : decode cX7_addItem 77 = .ok (.iload_n 1, 1) := by decide +kernel
theorem dX7_addItem_78 : decode cX7_addItem 78 = .ok (.iconst 4, 1) := by decide +kernel
theorem dX7_addItem_79 : decode cX7_addItem 79 = .ok (.invokevirtual 147, 3) := by decide +kernel
theorem dX7_addItem_82 : decode cX7_addItem 82 = .ok (.aload_n 0, 1) := by decide +kernel
theorem dX7_addItem_83 : decode cX7_addItem 83 = .ok (.getfield 35, 3) := by decide +kernel
theorem dX7_addItem_86 : decode cX7_addItem 86 = .ok (.iload_n 1, 1) := by decide +kernel
theorem dX7_addItem_87 : decode cX7_addItem 87 = .ok (.iconst 5, 1) := by decide +kernel
theorem dX7_addItem_88 : decode cX7_addItem 88 = .ok (.invokevirtual 147, 3) := by decide +kernel
theorem dX7_addItem_91 : decode cX7_addItem 91 = .ok (.aload_n 0, 1) := by decide +kernel
theorem dX7_addItem_92 : decode cX7_addItem 92 = .ok (.getfield 35, 3) := by decide +kernel
theorem dX7_addItem_95 : decode cX7_addItem 95 = .ok (.iload_n 1, 1) := by decide +kernel
theorem dX7_addItem_96 : decode cX7_addItem 96 = .ok (.bipush 6, 2) := by decide +kernel
theorem dX7_addItem_98 : decode cX7_addItem 98 = .ok (.invokevirtual 147, 3) := by decide +kernel
theorem dX7_addItem_101 : decode cX7_addItem 101 = .ok (.invokevirtual 60, 3) := by decide +kernel
theorem dX7_addItem_104 : decode cX7_addItem 104 = .ok (.pop, 1) := by decide +kernel
theorem dX7_addItem_105 : decode cX7_addItem 105 = .ok (.return_, 1) := by decide +kernel
set_option maxRecDepth 20000 in
theorem ggX7_wear_X7_isWithin : GoodIn wsX7_wear wsX7_isWithin := goodIn_r _ [8] (by decide +kernel) (by decide +kernel)
set_option maxRecDepth 20000 in
theorem gX7_wear_X7_isWithin : GoodIn wsX7_wear (va_wsS RX7 43 yX7_isWithin wsX7_isWithin) := goodIn_app (goodIn_of _ (by decide +kernel)) ggX7_wear_X7_isWithin
set_option maxRecDepth 20000 in
theorem ggX7_wear_X0_has : GoodIn wsX7_wear wsX0_has := goodIn_r _ [13, 14, 112, 113, 114] (by decide +kernel) (by decide +kernel)
set_option maxRecDepth 20000 in
theorem gX7_wear_X0_has : GoodIn wsX7_wear (wsV RX7 151 RX0 yX0_has wsX0_has) := goodIn_app (goodIn_of _ (by decide +kernel)) ggX7_wear_X0_has
set_option maxRecDepth 20000 in
theorem ggX7_wear_X6_has : GoodIn wsX7_wear wsX6_has := goodIn_r _ [19, 20, 115, 116, 117, 118, 119, 120, 121, 122, 123] (by decide +kernel) (by decide +kernel)
set_option maxRecDepth 20000 in
theorem gX7_wear_X6_has : GoodIn wsX7_wear (wsV RX7 64 RX6 yX6_has wsX6_has) := goodIn_app (goodIn_of _ (by decide +kernel)) ggX7_wear_X6_has
set_option maxRecDepth 20000 in
theorem ggX7_wear_X2_remember : GoodIn wsX7_wear wsX2_remember := goodIn_r _ [25, 26, 27, 28, 29, 30, 31, 32, 33, 34, 24, 35, 36, 37, 38, 39, 40, 41, 42, 43, 44, 45, 46, 47, 48, 49, 50, 51, 52, 53, 18, 54, 20, 55, 56, 57, 58, 59, 60, 61, 62, 63, 7, 64, 65, 66, 67, 68, 69, 70, 71, 72, 12, 73, 14, 74, 75, 76, 77, 78, 79, 80, 81, 82, 83, 84, 85, 86, 124, 125, 126, 103, 104, 105, 106, 107, 108, 109, 110, 111, 115, 116, 117, 118, 119, 120, 121, 122, 123, 112, 113, 114, 127, 128, 129, 130, 131, 132] (by decide +kernel) (by decide +kernel)
set_option maxRecDepth 20000 in
theorem gX7_wear_X2_remember : GoodIn wsX7_wear (wsV RX7 56 RX2 yX2_remember wsX2_remember) := goodIn_app (goodIn_of _ (by decide +kernel)) ggX7_wear_X2_remember
set_option maxRecDepth 20000 in
theorem ggX7_wear_X0_dress : GoodIn wsX7_wear wsX0_dress := goodIn_r _ [90, 75, 91, 92, 93, 12, 94, 95, 7, 96, 97, 98, 112, 113, 114] (by decide +kernel) (by decide +kernel)
set_option maxRecDepth 20000 in
theorem gX7_wear_X0_dress : GoodIn wsX7_wear (wsV RX7 152 RX0 yX0_dress wsX0_dress) := goodIn_app (goodIn_of _ (by decide +kernel)) ggX7_wear_X0_dress
theorem dX7_wear_0 : decode cX7_wear 0 = .ok (.iload_n 1, 1) := by decide +kernel
theorem dX7_wear_1 : decode cX7_wear 1 = .ok (.iconst 0, 1) := by decide +kernel
theorem dX7_wear_2 : decode cX7_wear 2 = .ok (.bipush 11, 2) := by decide +kernel
theorem dX7_wear_4 : decode cX7_wear 4 = .ok (.invokestatic 43, 3) := by decide +kernel
theorem dX7_wear_7 : decode cX7_wear 7 = .ok (.ifCond .eq 36, 3) := by decide +kernel
theorem dX7_wear_10 : decode cX7_wear 10 = .ok (.aload_n 0, 1) := by decide +kernel
theorem dX7_wear_11 : decode cX7_wear 11 = .ok (.getfield 10, 3) := by decide +kernel
theorem dX7_wear_14 : decode cX7_wear 14 = .ok (.getfield 80, 3) := by decide +kernel
theorem dX7_wear_17 : decode cX7_wear 17 = .ok (.iload_n 2, 1) := by decide +kernel
theorem dX7_wear_18 : decode cX7_wear 18 = .ok (.invokevirtual 151, 3) := by decide +kernel
theorem dX7_wear_21 : decode cX7_wear 21 = .ok (.ifCond .eq 22, 3) := by decide +kernel
theorem dX7_wear_24 : decode cX7_wear 24 = .ok (.iload_n 3, 1) := by decide +kernel
theorem dX7_wear_25 : decode cX7_wear 25 = .ok (.iconst (-1), 1) := by decide +kernel
theorem dX7_wear_26 : decode cX7_wear 26 = .ok (.if_icmp .eq 21, 3) := by decide +kernel
theorem dX7_wear_29 : decode cX7_wear 29 = .ok (.aload_n 0, 1) := by decide +kernel
theorem dX7_wear_30 : decode cX7_wear 30 = .ok (.getfield 10, 3) := by decide +kernel
theorem dX7_wear_33 : decode cX7_wear 33 = .ok (.getfield 46, 3) := by decide +kernel
theorem dX7_wear_36 : decode cX7_wear 36 = .ok (.iload_n 3, 1) := by decide +kernel
theorem dX7_wear_37 : decode cX7_wear 37 = .ok (.invokevirtual 64, 3) := by decide +kernel
theorem dX7_wear_40 : decode cX7_wear 40 = .ok (.ifCond .ne 7, 3) := by decide +kernel
theorem dX7_wear_43 : decode cX7_wear 43 = .ok (.sipush (-2001), 3) := by decide +kernel
theorem dX7_wear_46 : decode cX7_wear 46 = .ok (.ireturn, 1) := by decide +kernel
theorem dX7_wear_47 : decode cX7_wear 47 = .ok (.aload_n 0, 1) := by decide +kernel
theorem dX7_wear_48 : decode cX7_wear 48 = .ok (.getfield 19, 3) := by decide +kernel
theorem dX7_wear_51 : decode cX7_wear 51 = .ok (.aload_n 0, 1) := by decide +kernel
theorem dX7_wear_52 : decode cX7_wear 52 = .ok (.getfield 10, 3) := by decide +kernel
theorem dX7_wear_55 : decode cX7_wear 55 = .ok (.invokevirtual 56, 3) := by decide +kernel
theorem dX7_wear_58 : decode cX7_wear 58 = .ok (.aload_n 0, 1) := by decide +kernel
theorem dX7_wear_59 : decode cX7_wear 59 = .ok (.getfield 10, 3) := by decide +kernel
theorem dX7_wear_62 : decode cX7_wear 62 = .ok (.getfield 80, 3) := by decide +kernel
theorem dX7_wear_65 : decode cX7_wear 65 = .ok (.iload_n 1, 1) := by decide +kernel
theorem dX7_wear_66 : decode cX7_wear 66 = .ok (.iload_n 2, 1) := by decide +kernel
theorem dX7_wear_67 : decode cX7_wear 67 = .ok (.iload_n 3, 1) := by decide +kernel
theorem dX7_wear_68 : decode cX7_wear 68 = .ok (.invokevirtual 152, 3) := by decide +kernel
theorem dX7_wear_71 : decode cX7_wear 71 = .ok (.ireturn, 1) := by decide +kernel
set_option maxRecDepth 20000 in
theorem ggX7_perform_X4_problemsOf : GoodIn wsX7_perform wsX4_problemsOf := goodIn_r _ [9, 10, 11, 12, 8, 13, 14, 15, 16, 17, 18, 19, 20, 21, 22, 23, 24, 25, 26, 27, 28, 29, 30, 31, 32, 33, 34, 35, 36, 37, 38, 39, 40, 41, 42, 43, 44, 45, 46, 47, 48, 49, 50, 51, 52, 53, 54, 55, 56, 57, 58, 59, 60, 61, 62, 63, 64, 65, 66, 67, 68, 69, 70, 71, 72, 73, 74, 75, 76, 77, 78, 79, 80, 81, 82, 83, 84, 85, 86, 87, 88, 89, 90, 91, 92, 93, 94, 95, 96, 97, 98, 99, 100, 101, 102, 103, 104, 173, 174, 175, 176, 177, 178, 179, 180, 181, 182, 183, 184, 185, 186, 187, 188, 189, 190, 191, 192, 193, 194, 195, 196, 197, 198, 199] (by decide +kernel) (by decide +kernel)
set_option maxRecDepth 20000 in
theorem gX7_perform_X4_problemsOf : GoodIn wsX7_perform (wsV RX7 155 RX4 yX4_problemsOf wsX4_problemsOf) := goodIn_app (goodIn_of _ (by decide +kernel)) ggX7_perform_X4_problemsOf
set_option maxRecDepth 20000 in
theorem ggX7_perform_X2_remember : GoodIn wsX7_perform wsX2_remember := goodIn_r _ [109, 110, 111, 112, 113, 52, 114, 115, 116, 117, 108, 118, 119, 120, 121, 122, 8, 123, 14, 16, 85, 58, 86, 124, 125, 126, 127, 128, 129, 130, 62, 131, 132, 71, 133, 134, 135, 136, 64, 65, 66, 137, 29, 138, 139, 140, 141, 142, 143, 144, 145, 146, 20, 147, 22, 80, 27, 148, 149, 150, 90, 151, 92, 93, 94, 99, 152, 153, 200, 201, 202, 173, 174, 175, 176, 177, 178, 179, 180, 181, 182, 183, 184, 185, 186, 187, 188, 189, 190, 191, 192, 193, 194, 195, 196, 197, 198, 199] (by decide +kernel) (by decide +kernel)
set_option maxRecDepth 20000 in
theorem gX7_perform_X2_remember : GoodIn wsX7_perform (wsV RX7 56 RX2 yX2_remember wsX2_remember) := goodIn_app (goodIn_of _ (by decide +kernel)) ggX7_perform_X2_remember
set_option maxRecDepth 20000 in
theorem ggX7_perform_X4_soilAll : GoodIn wsX7_perform wsX4_soilAll := goodIn_r _ [157, 14, 15, 16, 158, 159, 160, 20, 161, 39, 18, 19, 21, 22, 23, 24, 25, 26, 27, 28, 29, 30, 162, 163, 164, 62, 165, 136, 166, 113, 52, 114, 167, 168, 173, 174, 175, 176, 177, 178, 179, 180, 181, 182, 183, 184, 185, 186, 187, 188, 189, 190, 191, 192, 193] (by decide +kernel) (by decide +kernel)
set_option maxRecDepth 20000 in
theorem gX7_perform_X4_soilAll : GoodIn wsX7_perform (wsV RX7 161 RX4 yX4_soilAll wsX4_soilAll) := goodIn_app (goodIn_of _ (by decide +kernel)) ggX7_perform_X4_soilAll
theorem dX7_perform_0 : decode cX7_perform 0 = .ok (.iconst 0, 1) := by decide +kernel
theorem dX7_perform_1 : decode cX7_perform 1 = .ok (.istore_n 1, 1) := by decide +kernel
theorem dX7_perform_2 : decode cX7_perform 2 = .ok (.iload_n 1, 1) := by decide +kernel
theorem dX7_perform_3 : decode cX7_perform 3 = .ok (.iconst 5, 1) := by decide +kernel
theorem dX7_perform_4 : decode cX7_perform 4 = .ok (.if_icmp .ge 24, 3) := by decide +kernel
theorem dX7_perform_7 : decode cX7_perform 7 = .ok (.aload_n 0, 1) := by decide +kernel
theorem dX7_perform_8 : decode cX7_perform 8 = .ok (.getfield 10, 3) := by decide +kernel
theorem dX7_perform_11 : decode cX7_perform 11 = .ok (.iload_n 1, 1) := by decide +kernel
theorem dX7_perform_12 : decode cX7_perform 12 = .ok (.invokevirtual 155, 3) := by decide +kernel
theorem dX7_perform_15 : decode cX7_perform 15 = .ok (.ifCond .le 7, 3) := by decide +kernel
theorem dX7_perform_18 : decode cX7_perform 18 = .ok (.sipush (-2002), 3) := by decide +kernel
theorem dX7_perform_21 : decode cX7_perform 21 = .ok (.ireturn, 1) := by decide +kernel
theorem dX7_perform_22 : decode cX7_perform 22 = .ok (.iinc 1 1, 3) := by decide +kernel
theorem dX7_perform_25 : decode cX7_perform 25 = .ok (.goto (-23), 3) := by decide +kernel
theorem dX7_perform_28 : decode cX7_perform 28 = .ok (.aload_n 0, 1) := by decide +kernel
theorem dX7_perform_29 : decode cX7_perform 29 = .ok (.getfield 10, 3) := by decide +kernel
theorem dX7_perform_32 : decode cX7_perform 32 = .ok (.getfield 158, 3) := by decide +kernel
theorem dX7_perform_35 : decode cX7_perform 35 = .ok (.sipush 300, 3) := by decide +kernel
theorem dX7_perform_38 : decode cX7_perform 38 = .ok (.if_icmp .lt 7, 3) := by decide +kernel
theorem dX7_perform_41 : decode cX7_perform 41 = .ok (.sipush (-2003), 3) := by decide +kernel
theorem dX7_perform_44 : decode cX7_perform 44 = .ok (.ireturn, 1) := by decide +kernel
theorem dX7_perform_45 : decode cX7_perform 45 = .ok (.aload_n 0, 1) := by decide +kernel
theorem dX7_perform_46 : decode cX7_perform 46 = .ok (.getfield 19, 3) := by decide +kernel
theorem dX7_perform_49 : decode cX7_perform 49 = .ok (.aload_n 0, 1) := by decide +kernel
theorem dX7_perform_50 : decode cX7_perform 50 = .ok (.getfield 10, 3) := by decide +kernel
theorem dX7_perform_53 : decode cX7_perform 53 = .ok (.invokevirtual 56, 3) := by decide +kernel
theorem dX7_perform_56 : decode cX7_perform 56 = .ok (.aload_n 0, 1) := by decide +kernel
theorem dX7_perform_57 : decode cX7_perform 57 = .ok (.getfield 10, 3) := by decide +kernel
theorem dX7_perform_60 : decode cX7_perform 60 = .ok (.invokevirtual 161, 3) := by decide +kernel
theorem dX7_perform_63 : decode cX7_perform 63 = .ok (.aload_n 0, 1) := by decide +kernel
theorem dX7_perform_64 : decode cX7_perform 64 = .ok (.getfield 10, 3) := by decide +kernel
theorem dX7_perform_67 : decode cX7_perform 67 = .ok (.dup, 1) := by decide +kernel
theorem dX7_perform_68 : decode cX7_perform 68 = .ok (.getfield 164, 3) := by decide +kernel
theorem dX7_perform_71 : decode cX7_perform 71 = .ok (.iconst 1, 1) := by decide +kernel
theorem dX7_perform_72 : decode cX7_perform 72 = .ok (.iadd, 1) := by decide +kernel
theorem dX7_perform_73 : decode cX7_perform 73 = .ok (.putfield 164, 3) := by decide +kernel
theorem dX7_perform_76 : decode cX7_perform 76 = .ok (.aload_n 0, 1) := by decide +kernel
theorem dX7_perform_77 : decode cX7_perform 77 = .ok (.getfield 10, 3) := by decide +kernel
theorem dX7_perform_80 : decode cX7_perform 80 = .ok (.dup, 1) := by decide +kernel
theorem dX7_perform_81 : decode cX7_perform 81 = .ok (.getfield 158, 3) := by decide +kernel
theorem dX7_perform_84 : decode cX7_perform 84 = .ok (.iconst 1, 1) := by decide +kernel
theorem dX7_perform_85 : decode cX7_perform 85 = .ok (.iadd, 1) := by decide +kernel
theorem dX7_perform_86 : decode cX7_perform 86 = .ok (.putfield 158, 3) := by decide +kernel
theorem dX7_perform_89 : decode cX7_perform 89 = .ok (.aload_n 0, 1) := by decide +kernel
theorem dX7_perform_90 : decode cX7_perform 90 = .ok (.getfield 10, 3) := by decide +kernel
theorem dX7_perform_93 : decode cX7_perform 93 = .ok (.getfield 158, 3) := by decide +kernel
theorem dX7_perform_96 : decode cX7_perform 96 = .ok (.ireturn, 1) := by decide +kernel
set_option maxRecDepth 20000 in
theorem ggX7_pass_X7_isWithin : GoodIn wsX7_pass wsX7_isWithin := goodIn_r _ [7] (by decide +kernel) (by decide +kernel)
set_option maxRecDepth 20000 in
theorem gX7_pass_X7_isWithin : GoodIn wsX7_pass (va_wsS RX7 43 yX7_isWithin wsX7_isWithin) := goodIn_app (goodIn_of _ (by decide +kernel)) ggX7_pass_X7_isWithin
set_option maxRecDepth 20000 in
theorem ggX7_pass_X2_remember : GoodIn wsX7_pass wsX2_remember := goodIn_r _ [12, 13, 14, 15, 16, 17, 18, 19, 20, 21, 11, 22, 23, 24, 25, 26, 27, 28, 29, 30, 31, 32, 33, 34, 35, 36, 37, 38, 39, 40, 41, 42, 43, 44, 45, 46, 47, 48, 49, 50, 51, 52, 6, 53, 54, 55, 56, 57, 58, 59, 60, 61, 62, 63, 64, 65, 66, 67, 68, 69, 70, 71, 72, 73, 74, 75, 76, 77, 91, 92, 93, 82, 83, 84, 85, 86, 87, 88, 89, 90, 94, 95, 96, 97, 98, 99, 100, 101, 102, 103, 104, 105, 106, 107, 108, 109, 110, 111] (by decide +kernel) (by decide +kernel)
set_option maxRecDepth 20000 in
theorem gX7_pass_X2_remember : GoodIn wsX7_pass (wsV RX7 56 RX2 yX2_remember wsX2_remember) := goodIn_app (goodIn_of _ (by decide +kernel)) ggX7_pass_X2_remember
theorem dX7_pass_0 : decode cX7_pass 0 = .ok (.iload_n 1, 1) := by decide +kernel
theorem dX7_pass_1 : decode cX7_pass 1 = .ok (.iconst 1, 1) := by decide +kernel
theorem dX7_pass_2 : decode cX7_pass 2 = .ok (.bipush 60, 2) := by decide +kernel
theorem dX7_pass_4 : decode cX7_pass 4 = .ok (.invokestatic 43, 3) := by decide +kernel
theorem dX7_pass_7 : decode cX7_pass 7 = .ok (.ifCond .ne 7, 3) := by decide +kernel
theorem dX7_pass_10 : decode cX7_pass 10 = .ok (.sipush (-2001), 3) := by decide +kernel
theorem dX7_pass_13 : decode cX7_pass 13 = .ok (.ireturn, 1) := by decide +kernel
theorem dX7_pass_14 : decode cX7_pass 14 = .ok (.aload_n 0, 1) := by decide +kernel
theorem dX7_pass_15 : decode cX7_pass 15 = .ok (.getfield 10, 3) := by decide +kernel
theorem dX7_pass_18 : decode cX7_pass 18 = .ok (.getfield 158, 3) := by decide +kernel
theorem dX7_pass_21 : decode cX7_pass 21 = .ok (.iload_n 1, 1) := by decide +kernel
theorem dX7_pass_22 : decode cX7_pass 22 = .ok (.iadd, 1) := by decide +kernel
theorem dX7_pass_23 : decode cX7_pass 23 = .ok (.sipush 300, 3) := by decide +kernel
theorem dX7_pass_26 : decode cX7_pass 26 = .ok (.if_icmp .le 7, 3) := by decide +kernel
theorem dX7_pass_29 : decode cX7_pass 29 = .ok (.sipush (-2003), 3) := by decide +kernel
theorem dX7_pass_32 : decode cX7_pass 32 = .ok (.ireturn, 1) := by decide +kernel
theorem dX7_pass_33 : decode cX7_pass 33 = .ok (.aload_n 0, 1) := by decide +kernel
theorem dX7_pass_34 : decode cX7_pass 34 = .ok (.getfield 19, 3) := by decide +kernel
theorem dX7_pass_37 : decode cX7_pass 37 = .ok (.aload_n 0, 1) := by decide +kernel
theorem dX7_pass_38 : decode cX7_pass 38 = .ok (.getfield 10, 3) := by decide +kernel
theorem dX7_pass_41 : decode cX7_pass 41 = .ok (.invokevirtual 56, 3) := by decide +kernel
theorem dX7_pass_44 : decode cX7_pass 44 = .ok (.aload_n 0, 1) := by decide +kernel
theorem dX7_pass_45 : decode cX7_pass 45 = .ok (.getfield 10, 3) := by decide +kernel
theorem dX7_pass_48 : decode cX7_pass 48 = .ok (.dup, 1) := by decide +kernel
theorem dX7_pass_49 : decode cX7_pass 49 = .ok (.getfield 158, 3) := by decide +kernel
theorem dX7_pass_52 : decode cX7_pass 52 = .ok (.iload_n 1, 1) := by decide +kernel
theorem dX7_pass_53 : decode cX7_pass 53 = .ok (.iadd, 1) := by decide +kernel
theorem dX7_pass_54 : decode cX7_pass 54 = .ok (.putfield 158, 3) := by decide +kernel
theorem dX7_pass_57 : decode cX7_pass 57 = .ok (.aload_n 0, 1) := by decide +kernel
theorem dX7_pass_58 : decode cX7_pass 58 = .ok (.getfield 10, 3) := by decide +kernel
theorem dX7_pass_61 : decode cX7_pass 61 = .ok (.getfield 158, 3) := by decide +kernel
theorem dX7_pass_64 : decode cX7_pass 64 = .ok (.ireturn, 1) := by decide +kernel
set_option maxRecDepth 20000 in
theorem ggX7_hire_X6_has : GoodIn wsX7_hire wsX6_has := goodIn_r _ [12, 13, 124, 125, 126, 127, 128, 129, 130, 131, 132] (by decide +kernel) (by decide +kernel)
set_option maxRecDepth 20000 in
theorem gX7_hire_X6_has : GoodIn wsX7_hire (wsV RX7 64 RX6 yX6_has wsX6_has) := goodIn_app (goodIn_of _ (by decide +kernel)) ggX7_hire_X6_has
set_option maxRecDepth 20000 in
theorem ggX7_hire_X7_isWithin : GoodIn wsX7_hire wsX7_isWithin := goodIn_r _ [17] (by decide +kernel) (by decide +kernel)
set_option maxRecDepth 20000 in
theorem gX7_hire_X7_isWithin : GoodIn wsX7_hire (va_wsS RX7 43 yX7_isWithin wsX7_isWithin) := goodIn_app (goodIn_of _ (by decide +kernel)) ggX7_hire_X7_isWithin
set_option maxRecDepth 20000 in
theorem ggX7_hire_X1_overlapping : GoodIn wsX7_hire wsX1_overlapping := goodIn_r _ [22, 23, 24, 25, 26, 16, 27, 28, 29, 30, 21, 31, 32, 118, 119, 120, 121, 122, 123] (by decide +kernel) (by decide +kernel)
set_option maxRecDepth 20000 in
theorem gX7_hire_X1_overlapping : GoodIn wsX7_hire (wsV RX7 171 RX1 yX1_overlapping wsX1_overlapping) := goodIn_app (goodIn_of _ (by decide +kernel)) ggX7_hire_X1_overlapping
set_option maxRecDepth 20000 in
theorem ggX7_hire_X2_remember : GoodIn wsX7_hire wsX2_remember := goodIn_r _ [37, 38, 39, 40, 41, 42, 43, 44, 45, 46, 36, 47, 48, 49, 50, 51, 52, 53, 54, 55, 56, 57, 58, 59, 60, 61, 62, 63, 64, 65, 11, 66, 13, 67, 68, 69, 70, 71, 72, 73, 74, 75, 16, 76, 77, 78, 79, 80, 81, 82, 83, 84, 85, 86, 87, 88, 89, 90, 91, 92, 21, 93, 23, 24, 25, 32, 94, 95, 133, 134, 135, 109, 110, 111, 112, 113, 114, 115, 116, 117, 124, 125, 126, 127, 128, 129, 130, 131, 132, 136, 137, 138, 118, 119, 120, 121, 122, 123] (by decide +kernel) (by decide +kernel)
set_option maxRecDepth 20000 in
theorem gX7_hire_X2_remember : GoodIn wsX7_hire (wsV RX7 56 RX2 yX2_remember wsX2_remember) := goodIn_app (goodIn_of _ (by decide +kernel)) ggX7_hire_X2_remember
set_option maxRecDepth 20000 in
theorem ggX7_hire_X1_add : GoodIn wsX7_hire wsX1_add := goodIn_r _ [99, 24, 23, 25, 32, 94, 95, 100, 101, 21, 102, 103, 16, 104, 118, 119, 120, 121, 122, 123] (by decide +kernel) (by decide +kernel)
set_option maxRecDepth 20000 in
theorem gX7_hire_X1_add : GoodIn wsX7_hire (wsV RX7 177 RX1 yX1_add wsX1_add) := goodIn_app (goodIn_of _ (by decide +kernel)) ggX7_hire_X1_add
theorem dX7_hire_0 : decode cX7_hire 0 = .ok (.aload_n 0, 1) := by decide +kernel
theorem dX7_hire_1 : decode cX7_hire 1 = .ok (.getfield 10, 3) := by decide +kernel
theorem dX7_hire_4 : decode cX7_hire 4 = .ok (.getfield 46, 3) := by decide +kernel
theorem dX7_hire_7 : decode cX7_hire 7 = .ok (.iload_n 1, 1) := by decide +kernel
theorem dX7_hire_8 : decode cX7_hire 8 = .ok (.invokevirtual 64, 3) := by decide +kernel
theorem dX7_hire_11 : decode cX7_hire 11 = .ok (.ifCond .eq 41, 3) := by decide +kernel
theorem dX7_hire_14 : decode cX7_hire 14 = .ok (.iload_n 2, 1) := by decide +kernel
theorem dX7_hire_15 : decode cX7_hire 15 = .ok (.aload_n 0, 1) := by decide +kernel
theorem dX7_hire_16 : decode cX7_hire 16 = .ok (.getfield 10, 3) := by decide +kernel
theorem dX7_hire_19 : decode cX7_hire 19 = .ok (.getfield 158, 3) := by decide +kernel
theorem dX7_hire_22 : decode cX7_hire 22 = .ok (.sipush 300, 3) := by decide +kernel
theorem dX7_hire_25 : decode cX7_hire 25 = .ok (.invokestatic 43, 3) := by decide +kernel
theorem dX7_hire_28 : decode cX7_hire 28 = .ok (.ifCond .eq 24, 3) := by decide +kernel
theorem dX7_hire_31 : decode cX7_hire 31 = .ok (.iload_n 3, 1) := by decide +kernel
theorem dX7_hire_32 : decode cX7_hire 32 = .ok (.iconst 1, 1) := by decide +kernel
theorem dX7_hire_33 : decode cX7_hire 33 = .ok (.bipush 60, 2) := by decide +kernel
theorem dX7_hire_35 : decode cX7_hire 35 = .ok (.invokestatic 43, 3) := by decide +kernel
theorem dX7_hire_38 : decode cX7_hire 38 = .ok (.ifCond .eq 14, 3) := by decide +kernel
theorem dX7_hire_41 : decode cX7_hire 41 = .ok (.iload 4, 2) := by decide +kernel
theorem dX7_hire_43 : decode cX7_hire 43 = .ok (.iconst 1, 1) := by decide +kernel
theorem dX7_hire_44 : decode cX7_hire 44 = .ok (.bipush 50, 2) := by decide +kernel
theorem dX7_hire_46 : decode cX7_hire 46 = .ok (.invokestatic 43, 3) := by decide +kernel
theorem dX7_hire_49 : decode cX7_hire 49 = .ok (.ifCond .ne 7, 3) := by decide +kernel
theorem dX7_hire_52 : decode cX7_hire 52 = .ok (.sipush (-2001), 3) := by decide +kernel
theorem dX7_hire_55 : decode cX7_hire 55 = .ok (.ireturn, 1) := by decide +kernel
theorem dX7_hire_56 : decode cX7_hire 56 = .ok (.aload_n 0, 1) := by decide +kernel
theorem dX7_hire_57 : decode cX7_hire 57 = .ok (.getfield 10, 3) := by decide +kernel
theorem dX7_hire_60 : decode cX7_hire 60 = .ok (.getfield 167, 3) := by decide +kernel
theorem dX7_hire_63 : decode cX7_hire 63 = .ok (.iload_n 1, 1) := by decide +kernel
theorem dX7_hire_64 : decode cX7_hire 64 = .ok (.iload_n 2, 1) := by decide +kernel
theorem dX7_hire_65 : decode cX7_hire 65 = .ok (.iload_n 3, 1) := by decide +kernel
theorem dX7_hire_66 : decode cX7_hire 66 = .ok (.invokevirtual 171, 3) := by decide +kernel
theorem dX7_hire_69 : decode cX7_hire 69 = .ok (.ifCond .lt 7, 3) := by decide +kernel
theorem dX7_hire_72 : decode cX7_hire 72 = .ok (.sipush (-2002), 3) := by decide +kernel
theorem dX7_hire_75 : decode cX7_hire 75 = .ok (.ireturn, 1) := by decide +kernel
theorem dX7_hire_76 : decode cX7_hire 76 = .ok (.aload_n 0, 1) := by decide +kernel
theorem dX7_hire_77 : decode cX7_hire 77 = .ok (.getfield 10, 3) := by decide +kernel
theorem dX7_hire_80 : decode cX7_hire 80 = .ok (.getfield 167, 3) := by decide +kernel
theorem dX7_hire_83 : decode cX7_hire 83 = .ok (.getfield 176, 3) := by decide +kernel
theorem dX7_hire_86 : decode cX7_hire 86 = .ok (.bipush 24, 2) := by decide +kernel
theorem dX7_hire_88 : decode cX7_hire 88 = .ok (.if_icmp .lt 7, 3) := by decide +kernel
theorem dX7_hire_91 : decode cX7_hire 91 = .ok (.sipush (-2003), 3) := by decide +kernel
theorem dX7_hire_94 : decode cX7_hire 94 = .ok (.ireturn, 1) := by decide +kernel
theorem dX7_hire_95 : decode cX7_hire 95 = .ok (.aload_n 0, 1) := by decide +kernel
theorem dX7_hire_96 : decode cX7_hire 96 = .ok (.getfield 19, 3) := by decide +kernel
theorem dX7_hire_99 : decode cX7_hire 99 = .ok (.aload_n 0, 1) := by decide +kernel
theorem dX7_hire_100 : decode cX7_hire 100 = .ok (.getfield 10, 3) := by decide +kernel
theorem dX7_hire_103 : decode cX7_hire 103 = .ok (.invokevirtual 56, 3) := by decide +kernel
theorem dX7_hire_106 : decode cX7_hire 106 = .ok (.aload_n 0, 1) := by decide +kernel
theorem dX7_hire_107 : decode cX7_hire 107 = .ok (.getfield 10, 3) := by decide +kernel
theorem dX7_hire_110 : decode cX7_hire 110 = .ok (.getfield 167, 3) := by decide +kernel
theorem dX7_hire_113 : decode cX7_hire 113 = .ok (.iload_n 1, 1) := by decide +kernel
theorem dX7_hire_114 : decode cX7_hire 114 = .ok (.iload_n 2, 1) := by decide +kernel
theorem dX7_hire_115 : decode cX7_hire 115 = .ok (.iload_n 3, 1) := by decide +kernel
theorem dX7_hire_116 : decode cX7_hire 116 = .ok (.iload 4, 2) := by decide +kernel
theorem dX7_hire_118 : decode cX7_hire 118 = .ok (.invokevirtual 177, 3) := by decide +kernel
theorem dX7_hire_121 : decode cX7_hire 121 = .ok (.istore 5, 2) := by decide +kernel
theorem dX7_hire_123 : decode cX7_hire 123 = .ok (.aload_n 0, 1) := by decide +kernel
theorem dX7_hire_124 : decode cX7_hire 124 = .ok (.getfield 10, 3) := by decide +kernel
theorem dX7_hire_127 : decode cX7_hire 127 = .ok (.dup, 1) := by decide +kernel
theorem dX7_hire_128 : decode cX7_hire 128 = .ok (.getfield 180, 3) := by decide +kernel
theorem dX7_hire_131 : decode cX7_hire 131 = .ok (.iload 5, 2) := by decide +kernel
theorem dX7_hire_133 : decode cX7_hire 133 = .ok (.iadd, 1) := by decide +kernel
theorem dX7_hire_134 : decode cX7_hire 134 = .ok (.putfield 180, 3) := by decide +kernel
theorem dX7_hire_137 : decode cX7_hire 137 = .ok (.iload 5, 2) := by decide +kernel
theorem dX7_hire_139 : decode cX7_hire 139 = .ok (.ireturn, 1) := by decide +kernel
set_option maxRecDepth 20000 in
theorem ggX7_endHire_X1_has : GoodIn wsX7_endHire wsX1_has := goodIn_r _ [10, 11, 113, 114, 115, 116, 117, 118] (by decide +kernel) (by decide +kernel)
set_option maxRecDepth 20000 in
theorem gX7_endHire_X1_has : GoodIn wsX7_endHire (wsV RX7 183 RX1 yX1_has wsX1_has) := goodIn_app (goodIn_of _ (by decide +kernel)) ggX7_endHire_X1_has
set_option maxRecDepth 20000 in
theorem ggX7_endHire_X1_canEnd : GoodIn wsX7_endHire wsX1_canEnd := goodIn_r _ [15, 16, 17, 18, 19, 20, 21, 22, 9, 23, 24, 113, 114, 115, 116, 117, 118] (by decide +kernel) (by decide +kernel)
set_option maxRecDepth 20000 in
theorem gX7_endHire_X1_canEnd : GoodIn wsX7_endHire (wsV RX7 184 RX1 yX1_canEnd wsX1_canEnd) := goodIn_app (goodIn_of _ (by decide +kernel)) ggX7_endHire_X1_canEnd
set_option maxRecDepth 20000 in
theorem ggX7_endHire_X2_remember : GoodIn wsX7_endHire wsX2_remember := goodIn_r _ [29, 30, 31, 32, 33, 34, 35, 36, 37, 38, 28, 39, 40, 41, 42, 43, 44, 45, 46, 47, 48, 49, 50, 51, 52, 53, 54, 55, 56, 57, 58, 59, 60, 61, 62, 63, 64, 65, 66, 67, 68, 69, 18, 70, 71, 72, 73, 74, 75, 76, 77, 78, 79, 80, 81, 82, 83, 84, 85, 86, 9, 87, 11, 88, 16, 24, 89, 90, 119, 120, 121, 104, 105, 106, 107, 108, 109, 110, 111, 112, 122, 123, 124, 125, 126, 127, 128, 129, 130, 131, 132, 133, 113, 114, 115, 116, 117, 118] (by decide +kernel) (by decide +kernel)
set_option maxRecDepth 20000 in
theorem gX7_endHire_X2_remember : GoodIn wsX7_endHire (wsV RX7 56 RX2 yX2_remember wsX2_remember) := goodIn_app (goodIn_of _ (by decide +kernel)) ggX7_endHire_X2_remember
set_option maxRecDepth 20000 in
theorem ggX7_endHire_X1_end : GoodIn wsX7_endHire wsX1_end := goodIn_r _ [94, 16, 90, 89, 24, 17, 18, 19, 95, 96, 9, 97, 98, 99, 113, 114, 115, 116, 117, 118] (by decide +kernel) (by decide +kernel)
set_option maxRecDepth 20000 in
theorem gX7_endHire_X1_end : GoodIn wsX7_endHire (wsV RX7 187 RX1 yX1_end wsX1_end) := goodIn_app (goodIn_of _ (by decide +kernel)) ggX7_endHire_X1_end
theorem dX7_endHire_0 : decode cX7_endHire 0 = .ok (.aload_n 0, 1) := by decide +kernel
theorem dX7_endHire_1 : decode cX7_endHire 1 = .ok (.getfield 10, 3) := by decide +kernel
theorem dX7_endHire_4 : decode cX7_endHire 4 = .ok (.getfield 167, 3) := by decide +kernel
theorem dX7_endHire_7 : decode cX7_endHire 7 = .ok (.iload_n 1, 1) := by decide +kernel
theorem dX7_endHire_8 : decode cX7_endHire 8 = .ok (.invokevirtual 183, 3) := by decide +kernel
theorem dX7_endHire_11 : decode cX7_endHire 11 = .ok (.ifCond .ne 7, 3) := by decide +kernel
theorem dX7_endHire_14 : decode cX7_endHire 14 = .ok (.sipush (-2001), 3) := by decide +kernel
theorem dX7_endHire_17 : decode cX7_endHire 17 = .ok (.ireturn, 1) := by decide +kernel
theorem dX7_endHire_18 : decode cX7_endHire 18 = .ok (.aload_n 0, 1) := by decide +kernel
theorem dX7_endHire_19 : decode cX7_endHire 19 = .ok (.getfield 10, 3) := by decide +kernel
theorem dX7_endHire_22 : decode cX7_endHire 22 = .ok (.getfield 167, 3) := by decide +kernel
theorem dX7_endHire_25 : decode cX7_endHire 25 = .ok (.iload_n 1, 1) := by decide +kernel
theorem dX7_endHire_26 : decode cX7_endHire 26 = .ok (.aload_n 0, 1) := by decide +kernel
theorem dX7_endHire_27 : decode cX7_endHire 27 = .ok (.getfield 10, 3) := by decide +kernel
theorem dX7_endHire_30 : decode cX7_endHire 30 = .ok (.getfield 158, 3) := by decide +kernel
theorem dX7_endHire_33 : decode cX7_endHire 33 = .ok (.invokevirtual 184, 3) := by decide +kernel
theorem dX7_endHire_36 : decode cX7_endHire 36 = .ok (.ifCond .ne 7, 3) := by decide +kernel
theorem dX7_endHire_39 : decode cX7_endHire 39 = .ok (.sipush (-2002), 3) := by decide +kernel
theorem dX7_endHire_42 : decode cX7_endHire 42 = .ok (.ireturn, 1) := by decide +kernel
theorem dX7_endHire_43 : decode cX7_endHire 43 = .ok (.aload_n 0, 1) := by decide +kernel
theorem dX7_endHire_44 : decode cX7_endHire 44 = .ok (.getfield 19, 3) := by decide +kernel
theorem dX7_endHire_47 : decode cX7_endHire 47 = .ok (.aload_n 0, 1) := by decide +kernel
theorem dX7_endHire_48 : decode cX7_endHire 48 = .ok (.getfield 10, 3) := by decide +kernel
theorem dX7_endHire_51 : decode cX7_endHire 51 = .ok (.invokevirtual 56, 3) := by decide +kernel
theorem dX7_endHire_54 : decode cX7_endHire 54 = .ok (.aload_n 0, 1) := by decide +kernel
theorem dX7_endHire_55 : decode cX7_endHire 55 = .ok (.getfield 10, 3) := by decide +kernel
theorem dX7_endHire_58 : decode cX7_endHire 58 = .ok (.getfield 167, 3) := by decide +kernel
theorem dX7_endHire_61 : decode cX7_endHire 61 = .ok (.iload_n 1, 1) := by decide +kernel
theorem dX7_endHire_62 : decode cX7_endHire 62 = .ok (.aload_n 0, 1) := by decide +kernel
theorem dX7_endHire_63 : decode cX7_endHire 63 = .ok (.getfield 10, 3) := by decide +kernel
theorem dX7_endHire_66 : decode cX7_endHire 66 = .ok (.getfield 158, 3) := by decide +kernel
theorem dX7_endHire_69 : decode cX7_endHire 69 = .ok (.invokevirtual 187, 3) := by decide +kernel
theorem dX7_endHire_72 : decode cX7_endHire 72 = .ok (.istore_n 2, 1) := by decide +kernel
theorem dX7_endHire_73 : decode cX7_endHire 73 = .ok (.aload_n 0, 1) := by decide +kernel
theorem dX7_endHire_74 : decode cX7_endHire 74 = .ok (.getfield 10, 3) := by decide +kernel
theorem dX7_endHire_77 : decode cX7_endHire 77 = .ok (.dup, 1) := by decide +kernel
theorem dX7_endHire_78 : decode cX7_endHire 78 = .ok (.getfield 180, 3) := by decide +kernel
theorem dX7_endHire_81 : decode cX7_endHire 81 = .ok (.iload_n 2, 1) := by decide +kernel
theorem dX7_endHire_82 : decode cX7_endHire 82 = .ok (.isub, 1) := by decide +kernel
theorem dX7_endHire_83 : decode cX7_endHire 83 = .ok (.putfield 180, 3) := by decide +kernel
theorem dX7_endHire_86 : decode cX7_endHire 86 = .ok (.iload_n 2, 1) := by decide +kernel
theorem dX7_endHire_87 : decode cX7_endHire 87 = .ok (.ireturn, 1) := by decide +kernel
set_option maxRecDepth 20000 in
theorem ggX7_wash_X7_isProgram : GoodIn wsX7_wash wsX7_isProgram := goodIn_r _ [10, 11, 12, 9, 13] (by decide +kernel) (by decide +kernel)
set_option maxRecDepth 20000 in
theorem gX7_wash_X7_isProgram : GoodIn wsX7_wash (va_wsS RX7 190 yX7_isProgram wsX7_isProgram) := goodIn_app (goodIn_of _ (by decide +kernel)) ggX7_wash_X7_isProgram
set_option maxRecDepth 20000 in
theorem ggX7_wash_X7_isSetOfCostumes : GoodIn wsX7_wash wsX7_isSetOfCostumes := goodIn_r _ [17, 1, 5, 18, 130, 131, 132, 133, 134, 135, 136, 137, 138, 139, 140, 141, 142, 143, 144, 145, 146, 147, 148, 149, 150, 151] (by decide +kernel) (by decide +kernel)
set_option maxRecDepth 20000 in
theorem gX7_wash_X7_isSetOfCostumes : GoodIn wsX7_wash (wsV RX7 193 RX7 yX7_isSetOfCostumes wsX7_isSetOfCostumes) := goodIn_app (goodIn_of _ (by decide +kernel)) ggX7_wash_X7_isSetOfCostumes
set_option maxRecDepth 20000 in
theorem ggX7_wash_X4_allowsLoad : GoodIn wsX7_wash wsX4_allowsLoad := goodIn_r _ [23, 24, 25, 26, 27, 28, 29, 30, 31, 32, 33, 34, 9, 35, 36, 37, 38, 22, 39, 40, 41, 42, 43, 44, 45, 46, 47, 48, 49, 50, 51, 52, 53, 54, 55, 56, 57, 58, 59, 60, 61, 62, 134, 135, 136, 137, 138, 139, 140, 141, 142, 143, 144, 145, 146, 147, 148, 149, 150, 151, 152, 153, 154, 155, 156, 157] (by decide +kernel) (by decide +kernel)
set_option maxRecDepth 20000 in
theorem gX7_wash_X4_allowsLoad : GoodIn wsX7_wash (wsV RX7 196 RX4 yX4_allowsLoad wsX4_allowsLoad) := goodIn_app (goodIn_of _ (by decide +kernel)) ggX7_wash_X4_allowsLoad
set_option maxRecDepth 20000 in
theorem ggX7_wash_X2_remember : GoodIn wsX7_wash wsX2_remember := goodIn_r _ [67, 68, 69, 70, 71, 72, 73, 74, 75, 76, 66, 77, 78, 79, 80, 81, 22, 82, 24, 83, 40, 84, 41, 85, 86, 87, 88, 89, 90, 91, 60, 92, 93, 94, 95, 62, 96, 97, 98, 99, 100, 101, 9, 102, 103, 104, 105, 106, 107, 108, 109, 110, 111, 112, 113, 114, 115, 116, 117, 118, 45, 119, 47, 48, 49, 56, 120, 121, 158, 159, 160, 134, 135, 136, 137, 138, 139, 140, 141, 142, 143, 144, 145, 146, 147, 148, 149, 150, 151, 161, 162, 163, 152, 153, 154, 155, 156, 157] (by decide +kernel) (by decide +kernel)
set_option maxRecDepth 20000 in
theorem gX7_wash_X2_remember : GoodIn wsX7_wash (wsV RX7 56 RX2 yX2_remember wsX2_remember) := goodIn_app (goodIn_of _ (by decide +kernel)) ggX7_wash_X2_remember
set_option maxRecDepth 20000 in
theorem ggX7_wash_X7_at : GoodIn wsX7_wash wsX7_at := goodIn_r _ [51] (by decide +kernel) (by decide +kernel)
set_option maxRecDepth 20000 in
theorem gX7_wash_X7_at : GoodIn wsX7_wash (va_wsS RX7 72 yX7_at wsX7_at) := goodIn_app (goodIn_of _ (by decide +kernel)) ggX7_wash_X7_at
set_option maxRecDepth 20000 in
theorem ggX7_wash_X6_clean : GoodIn wsX7_wash wsX6_clean := goodIn_r _ [126, 93, 97, 127, 71, 72, 73, 34, 9, 35, 50, 51, 128, 129, 143, 144, 145, 146, 147, 148, 149, 150, 151] (by decide +kernel) (by decide +kernel)
set_option maxRecDepth 20000 in
theorem gX7_wash_X6_clean : GoodIn wsX7_wash (wsV RX7 208 RX6 yX6_clean wsX6_clean) := goodIn_app (goodIn_of _ (by decide +kernel)) ggX7_wash_X6_clean
theorem dX7_wash_0 : decode cX7_wash 0 = .ok (.iload_n 1, 1) := by decide +kernel
theorem dX7_wash_1 : decode cX7_wash 1 = .ok (.invokestatic 190, 3) := by decide +kernel
theorem dX7_wash_4 : decode cX7_wash 4 = .ok (.ifCond .eq 15, 3) := by decide +kernel
theorem dX7_wash_7 : decode cX7_wash 7 = .ok (.iload_n 2, 1) := by decide +kernel
theorem dX7_wash_8 : decode cX7_wash 8 = .ok (.ifCond .eq 11, 3) := by decide +kernel
theorem dX7_wash_11 : decode cX7_wash 11 = .ok (.aload_n 0, 1) := by decide +kernel
theorem dX7_wash_12 : decode cX7_wash 12 = .ok (.iload_n 2, 1) := by decide +kernel
theorem dX7_wash_13 : decode cX7_wash 13 = .ok (.invokevirtual 193, 3) := by decide +kernel
theorem dX7_wash_16 : decode cX7_wash 16 = .ok (.ifCond .ne 7, 3) := by decide +kernel
theorem dX7_wash_19 : decode cX7_wash 19 = .ok (.sipush (-2001), 3) := by decide +kernel
theorem dX7_wash_22 : decode cX7_wash 22 = .ok (.ireturn, 1) := by decide +kernel
theorem dX7_wash_23 : decode cX7_wash 23 = .ok (.aload_n 0, 1) := by decide +kernel
theorem dX7_wash_24 : decode cX7_wash 24 = .ok (.getfield 10, 3) := by decide +kernel
theorem dX7_wash_27 : decode cX7_wash 27 = .ok (.iload_n 1, 1) := by decide +kernel
theorem dX7_wash_28 : decode cX7_wash 28 = .ok (.iload_n 2, 1) := by decide +kernel
theorem dX7_wash_29 : decode cX7_wash 29 = .ok (.invokevirtual 196, 3) := by decide +kernel
theorem dX7_wash_32 : decode cX7_wash 32 = .ok (.ifCond .ne 7, 3) := by decide +kernel
theorem dX7_wash_35 : decode cX7_wash 35 = .ok (.sipush (-2002), 3) := by decide +kernel
theorem dX7_wash_38 : decode cX7_wash 38 = .ok (.ireturn, 1) := by decide +kernel
theorem dX7_wash_39 : decode cX7_wash 39 = .ok (.aload_n 0, 1) := by decide +kernel
theorem dX7_wash_40 : decode cX7_wash 40 = .ok (.getfield 19, 3) := by decide +kernel
theorem dX7_wash_43 : decode cX7_wash 43 = .ok (.aload_n 0, 1) := by decide +kernel
theorem dX7_wash_44 : decode cX7_wash 44 = .ok (.getfield 10, 3) := by decide +kernel
theorem dX7_wash_47 : decode cX7_wash 47 = .ok (.invokevirtual 56, 3) := by decide +kernel
theorem dX7_wash_50 : decode cX7_wash 50 = .ok (.aload_n 0, 1) := by decide +kernel
theorem dX7_wash_51 : decode cX7_wash 51 = .ok (.getfield 10, 3) := by decide +kernel
theorem dX7_wash_54 : decode cX7_wash 54 = .ok (.dup, 1) := by decide +kernel
theorem dX7_wash_55 : decode cX7_wash 55 = .ok (.getfield 199, 3) := by decide +kernel
theorem dX7_wash_58 : decode cX7_wash 58 = .ok (.getstatic 202, 3) := by decide +kernel
theorem dX7_wash_61 : decode cX7_wash 61 = .ok (.iload_n 1, 1) := by decide +kernel
theorem dX7_wash_62 : decode cX7_wash 62 = .ok (.invokestatic 72, 3) := by decide +kernel
theorem dX7_wash_65 : decode cX7_wash 65 = .ok (.iadd, 1) := by decide +kernel
theorem dX7_wash_66 : decode cX7_wash 66 = .ok (.putfield 199, 3) := by decide +kernel
theorem dX7_wash_69 : decode cX7_wash 69 = .ok (.aload_n 0, 1) := by decide +kernel
theorem dX7_wash_70 : decode cX7_wash 70 = .ok (.getfield 10, 3) := by decide +kernel
theorem dX7_wash_73 : decode cX7_wash 73 = .ok (.getfield 46, 3) := by decide +kernel
theorem dX7_wash_76 : decode cX7_wash 76 = .ok (.iload_n 2, 1) := by decide +kernel
theorem dX7_wash_77 : decode cX7_wash 77 = .ok (.getstatic 205, 3) := by decide +kernel
theorem dX7_wash_80 : decode cX7_wash 80 = .ok (.iload_n 1, 1) := by decide +kernel
theorem dX7_wash_81 : decode cX7_wash 81 = .ok (.invokestatic 72, 3) := by decide +kernel
theorem dX7_wash_84 : decode cX7_wash 84 = .ok (.invokevirtual 208, 3) := by decide +kernel
theorem dX7_wash_87 : decode cX7_wash 87 = .ok (.ireturn, 1) := by decide +kernel
set_option maxRecDepth 20000 in
theorem ggX7_undo_X2_restore : GoodIn wsX7_undo wsX2_restore := goodIn_r _ [8, 9, 10, 11, 12, 13, 7, 14, 15, 16, 17, 18, 19, 20, 21, 22, 23, 24, 25, 26, 27, 28, 29, 30, 31, 32, 33, 34, 35, 36, 37, 38, 39, 40, 41, 42, 43, 44, 45, 46, 47, 48, 49, 50, 51, 52, 53, 54, 55, 56, 57, 58, 59, 60, 61, 62, 63, 64, 65, 66, 67, 68, 69, 70, 71, 72, 73, 78, 79, 80, 81, 82, 83, 84, 85, 86, 87, 88, 89, 90, 91, 92, 93, 94, 95, 96, 97, 98, 99, 100, 101, 102, 103, 104, 105, 106, 107] (by decide +kernel) (by decide +kernel)
set_option maxRecDepth 20000 in
theorem gX7_undo_X2_restore : GoodIn wsX7_undo (wsV RX7 212 RX2 yX2_restore wsX2_restore) := goodIn_app (goodIn_of _ (by decide +kernel)) ggX7_undo_X2_restore
theorem dX7_undo_0 : decode cX7_undo 0 = .ok (.aload_n 0, 1) := by decide +kernel
theorem dX7_undo_1 : decode cX7_undo 1 = .ok (.getfield 19, 3) := by decide +kernel
theorem dX7_undo_4 : decode cX7_undo 4 = .ok (.getfield 211, 3) := by decide +kernel
theorem dX7_undo_7 : decode cX7_undo 7 = .ok (.ifCond .gt 7, 3) := by decide +kernel
theorem dX7_undo_10 : decode cX7_undo 10 = .ok (.sipush (-2002), 3) := by decide +kernel
theorem dX7_undo_13 : decode cX7_undo 13 = .ok (.ireturn, 1) := by decide +kernel
theorem dX7_undo_14 : decode cX7_undo 14 = .ok (.aload_n 0, 1) := by decide +kernel
theorem dX7_undo_15 : decode cX7_undo 15 = .ok (.getfield 19, 3) := by decide +kernel
theorem dX7_undo_18 : decode cX7_undo 18 = .ok (.aload_n 0, 1) := by decide +kernel
theorem dX7_undo_19 : decode cX7_undo 19 = .ok (.getfield 10, 3) := by decide +kernel
theorem dX7_undo_22 : decode cX7_undo 22 = .ok (.invokevirtual 212, 3) := by decide +kernel
theorem dX7_undo_25 : decode cX7_undo 25 = .ok (.aload_n 0, 1) := by decide +kernel
theorem dX7_undo_26 : decode cX7_undo 26 = .ok (.getfield 19, 3) := by decide +kernel
theorem dX7_undo_29 : decode cX7_undo 29 = .ok (.getfield 211, 3) := by decide +kernel
theorem dX7_undo_32 : decode cX7_undo 32 = .ok (.ireturn, 1) := by decide +kernel
set_option maxRecDepth 20000 in
theorem ggX7_count_X0_quickChanges : GoodIn wsX7_count wsX0_quickChanges := goodIn_r _ [22, 23, 24, 25, 26, 21, 27, 28, 29, 30, 31, 84, 85, 86] (by decide +kernel) (by decide +kernel)
set_option maxRecDepth 20000 in
theorem gX7_count_X0_quickChanges : GoodIn wsX7_count (wsV RX7 215 RX0 yX0_quickChanges wsX0_quickChanges) := goodIn_app (goodIn_of _ (by decide +kernel)) ggX7_count_X0_quickChanges
set_option maxRecDepth 20000 in
theorem ggX7_count_X4_awayToday : GoodIn wsX7_count wsX4_awayToday := goodIn_r _ [36, 37, 38, 39, 40, 41, 35, 42, 43, 44, 45, 46, 47, 48, 49, 50, 51, 52, 29, 30, 31, 53, 54, 55, 56, 57, 66, 67, 68, 69, 70, 71, 72, 73, 74, 75, 76, 77, 78, 79, 80, 81, 82, 83, 87, 88, 89, 90, 91, 92] (by decide +kernel) (by decide +kernel)
set_option maxRecDepth 20000 in
theorem gX7_count_X4_awayToday : GoodIn wsX7_count (wsV RX7 218 RX4 yX4_awayToday wsX4_awayToday) := goodIn_app (goodIn_of _ (by decide +kernel)) ggX7_count_X4_awayToday
set_option maxRecDepth 20000 in
theorem ggX7_count_X7_isWithin : GoodIn wsX7_count wsX7_isWithin := goodIn_r _ [60] (by decide +kernel) (by decide +kernel)
set_option maxRecDepth 20000 in
theorem gX7_count_X7_isWithin : GoodIn wsX7_count (va_wsS RX7 43 yX7_isWithin wsX7_isWithin) := goodIn_app (goodIn_of _ (by decide +kernel)) ggX7_count_X7_isWithin
set_option maxRecDepth 20000 in
theorem ggX7_count_X7_at : GoodIn wsX7_count wsX7_at := goodIn_r _ [31] (by decide +kernel) (by decide +kernel)
set_option maxRecDepth 20000 in
theorem gX7_count_X7_at : GoodIn wsX7_count (va_wsS RX7 72 yX7_at wsX7_at) := goodIn_app (goodIn_of _ (by decide +kernel)) ggX7_count_X7_at
theorem dX7_count_0 : decode cX7_count 0 = .ok (.iload_n 1, 1) := by decide +kernel
theorem dX7_count_1 : decode cX7_count 1 = .ok (.tableswitch 171 0 11 #[63, 74, 85, 96, 104, 115, 123, 131, 139, 147, 155, 163], 63) := by decide +kernel
theorem dX7_count_64 : decode cX7_count 64 = .ok (.aload_n 0, 1) := by decide +kernel
theorem dX7_count_65 : decode cX7_count 65 = .ok (.getfield 10, 3) := by decide +kernel
theorem dX7_count_68 : decode cX7_count 68 = .ok (.getfield 46, 3) := by decide +kernel
theorem dX7_count_71 : decode cX7_count 71 = .ok (.getfield 50, 3) := by decide +kernel
theorem dX7_count_74 : decode cX7_count 74 = .ok (.ireturn, 1) := by decide +kernel
theorem dX7_count_75 : decode cX7_count 75 = .ok (.aload_n 0, 1) := by decide +kernel
theorem dX7_count_76 : decode cX7_count 76 = .ok (.getfield 10, 3) := by decide +kernel
theorem dX7_count_79 : decode cX7_count 79 = .ok (.getfield 80, 3) := by decide +kernel
theorem dX7_count_82 : decode cX7_count 82 = .ok (.getfield 84, 3) := by decide +kernel
theorem dX7_count_85 : decode cX7_count 85 = .ok (.ireturn, 1) := by decide +kernel
theorem dX7_count_86 : decode cX7_count 86 = .ok (.aload_n 0, 1) := by decide +kernel
theorem dX7_count_87 : decode cX7_count 87 = .ok (.getfield 10, 3) := by decide +kernel
theorem dX7_count_90 : decode cX7_count 90 = .ok (.getfield 167, 3) := by decide +kernel
theorem dX7_count_93 : decode cX7_count 93 = .ok (.getfield 176, 3) := by decide +kernel
theorem dX7_count_96 : decode cX7_count 96 = .ok (.ireturn, 1) := by decide +kernel
theorem dX7_count_97 : decode cX7_count 97 = .ok (.aload_n 0, 1) := by decide +kernel
theorem dX7_count_98 : decode cX7_count 98 = .ok (.getfield 10, 3) := by decide +kernel
theorem dX7_count_101 : decode cX7_count 101 = .ok (.getfield 158, 3) := by decide +kernel
theorem dX7_count_104 : decode cX7_count 104 = .ok (.ireturn, 1) := by decide +kernel
theorem dX7_count_105 : decode cX7_count 105 = .ok (.aload_n 0, 1) := by decide +kernel
theorem dX7_count_106 : decode cX7_count 106 = .ok (.getfield 10, 3) := by decide +kernel
theorem dX7_count_109 : decode cX7_count 109 = .ok (.getfield 80, 3) := by decide +kernel
theorem dX7_count_112 : decode cX7_count 112 = .ok (.invokevirtual 215, 3) := by decide +kernel
theorem dX7_count_115 : decode cX7_count 115 = .ok (.ireturn, 1) := by decide +kernel
theorem dX7_count_116 : decode cX7_count 116 = .ok (.aload_n 0, 1) := by decide +kernel
theorem dX7_count_117 : decode cX7_count 117 = .ok (.getfield 10, 3) := by decide +kernel
theorem dX7_count_120 : decode cX7_count 120 = .ok (.getfield 116, 3) := by decide +kernel
theorem dX7_count_123 : decode cX7_count 123 = .ok (.ireturn, 1) := by decide +kernel
theorem dX7_count_124 : decode cX7_count 124 = .ok (.aload_n 0, 1) := by decide +kernel
theorem dX7_count_125 : decode cX7_count 125 = .ok (.getfield 10, 3) := by decide +kernel
theorem dX7_count_128 : decode cX7_count 128 = .ok (.getfield 180, 3) := by decide +kernel
theorem dX7_count_131 : decode cX7_count 131 = .ok (.ireturn, 1) := by decide +kernel
theorem dX7_count_132 : decode cX7_count 132 = .ok (.aload_n 0, 1) := by decide +kernel
theorem dX7_count_133 : decode cX7_count 133 = .ok (.getfield 10, 3) := by decide +kernel
theorem dX7_count_136 : decode cX7_count 136 = .ok (.getfield 199, 3) := by decide +kernel
theorem dX7_count_139 : decode cX7_count 139 = .ok (.ireturn, 1) := by decide +kernel
theorem dX7_count_140 : decode cX7_count 140 = .ok (.aload_n 0, 1) := by decide +kernel
theorem dX7_count_141 : decode cX7_count 141 = .ok (.getfield 10, 3) := by decide +kernel
theorem dX7_count_144 : decode cX7_count 144 = .ok (.invokevirtual 218, 3) := by decide +kernel
theorem dX7_count_147 : decode cX7_count 147 = .ok (.ireturn, 1) := by decide +kernel
theorem dX7_count_148 : decode cX7_count 148 = .ok (.aload_n 0, 1) := by decide +kernel
theorem dX7_count_149 : decode cX7_count 149 = .ok (.getfield 10, 3) := by decide +kernel
theorem dX7_count_152 : decode cX7_count 152 = .ok (.getfield 164, 3) := by decide +kernel
theorem dX7_count_155 : decode cX7_count 155 = .ok (.ireturn, 1) := by decide +kernel
theorem dX7_count_156 : decode cX7_count 156 = .ok (.aload_n 0, 1) := by decide +kernel
theorem dX7_count_157 : decode cX7_count 157 = .ok (.getfield 19, 3) := by decide +kernel
theorem dX7_count_160 : decode cX7_count 160 = .ok (.getfield 211, 3) := by decide +kernel
theorem dX7_count_163 : decode cX7_count 163 = .ok (.ireturn, 1) := by decide +kernel
theorem dX7_count_164 : decode cX7_count 164 = .ok (.aload_n 0, 1) := by decide +kernel
theorem dX7_count_165 : decode cX7_count 165 = .ok (.getfield 26, 3) := by decide +kernel
theorem dX7_count_168 : decode cX7_count 168 = .ok (.getfield 125, 3) := by decide +kernel
theorem dX7_count_171 : decode cX7_count 171 = .ok (.ireturn, 1) := by decide +kernel
theorem dX7_count_172 : decode cX7_count 172 = .ok (.iload_n 1, 1) := by decide +kernel
theorem dX7_count_173 : decode cX7_count 173 = .ok (.bipush 12, 2) := by decide +kernel
theorem dX7_count_175 : decode cX7_count 175 = .ok (.bipush 15, 2) := by decide +kernel
theorem dX7_count_177 : decode cX7_count 177 = .ok (.invokestatic 43, 3) := by decide +kernel
theorem dX7_count_180 : decode cX7_count 180 = .ok (.ifCond .eq 20, 3) := by decide +kernel
theorem dX7_count_183 : decode cX7_count 183 = .ok (.aload_n 0, 1) := by decide +kernel
theorem dX7_count_184 : decode cX7_count 184 = .ok (.getfield 10, 3) := by decide +kernel
theorem dX7_count_187 : decode cX7_count 187 = .ok (.getfield 94, 3) := by decide +kernel
theorem dX7_count_190 : decode cX7_count 190 = .ok (.iload_n 1, 1) := by decide +kernel
theorem dX7_count_191 : decode cX7_count 191 = .ok (.bipush 12, 2) := by decide +kernel
theorem dX7_count_193 : decode cX7_count 193 = .ok (.isub, 1) := by decide +kernel
theorem dX7_count_194 : decode cX7_count 194 = .ok (.invokestatic 72, 3) := by decide +kernel
theorem dX7_count_197 : decode cX7_count 197 = .ok (.goto 6, 3) := by decide +kernel
theorem dX7_count_200 : decode cX7_count 200 = .ok (.sipush (-2001), 3) := by decide +kernel
theorem dX7_count_203 : decode cX7_count 203 = .ok (.ireturn, 1) := by decide +kernel
set_option maxRecDepth 20000 in
theorem ggX7_costume_X6_has : GoodIn wsX7_costume wsX6_has := goodIn_r _ [14, 15, 72, 73, 74, 75, 76, 77, 78, 79, 80] (by decide +kernel) (by decide +kernel)
set_option maxRecDepth 20000 in
theorem gX7_costume_X6_has : GoodIn wsX7_costume (wsV RX7 64 RX6 yX6_has wsX6_has) := goodIn_app (goodIn_of _ (by decide +kernel)) ggX7_costume_X6_has
set_option maxRecDepth 20000 in
theorem ggX7_costume_X6_present : GoodIn wsX7_costume wsX6_present := goodIn_r _ [19, 20, 21, 22, 23, 24, 25, 13, 26, 27, 28, 29, 30, 31, 32, 33, 34, 72, 73, 74, 75, 76, 77, 78, 79, 80] (by decide +kernel) (by decide +kernel)
set_option maxRecDepth 20000 in
theorem gX7_costume_X6_present : GoodIn wsX7_costume (wsV RX7 221 RX6 yX6_present wsX6_present) := goodIn_app (goodIn_of _ (by decide +kernel)) ggX7_costume_X6_present
set_option maxRecDepth 20000 in
theorem ggX7_costume_X6_originalOf : GoodIn wsX7_costume wsX6_originalOf := goodIn_r _ [26, 27, 28, 29, 30, 72, 73, 74, 75, 76, 77, 78, 79, 80] (by decide +kernel) (by decide +kernel)
set_option maxRecDepth 20000 in
theorem gX7_costume_X6_originalOf : GoodIn wsX7_costume (wsV RX7 224 RX6 yX6_originalOf wsX6_originalOf) := goodIn_app (goodIn_of _ (by decide +kernel)) ggX7_costume_X6_originalOf
set_option maxRecDepth 20000 in
theorem ggX7_costume_X7_at : GoodIn wsX7_costume wsX7_at := goodIn_r _ [30] (by decide +kernel) (by decide +kernel)
set_option maxRecDepth 20000 in
theorem gX7_costume_X7_at : GoodIn wsX7_costume (va_wsS RX7 72 yX7_at wsX7_at) := goodIn_app (goodIn_of _ (by decide +kernel)) ggX7_costume_X7_at
set_option maxRecDepth 20000 in
theorem ggX7_costume_X0_scenesOf : GoodIn wsX7_costume wsX0_scenesOf := goodIn_r _ [41, 42, 43, 44, 40, 45, 46, 47, 48, 49, 50, 51, 28, 29, 30, 81, 82, 83] (by decide +kernel) (by decide +kernel)
set_option maxRecDepth 20000 in
theorem gX7_costume_X0_scenesOf : GoodIn wsX7_costume (wsV RX7 236 RX0 yX0_scenesOf wsX0_scenesOf) := goodIn_app (goodIn_of _ (by decide +kernel)) ggX7_costume_X0_scenesOf
set_option maxRecDepth 20000 in
theorem ggX7_costume_X1_hiresOf : GoodIn wsX7_costume wsX1_hiresOf := goodIn_r _ [56, 57, 58, 28, 29, 30, 84, 85, 86, 87, 88, 89] (by decide +kernel) (by decide +kernel)
set_option maxRecDepth 20000 in
theorem gX7_costume_X1_hiresOf : GoodIn wsX7_costume (wsV RX7 239 RX1 yX1_hiresOf wsX1_hiresOf) := goodIn_app (goodIn_of _ (by decide +kernel)) ggX7_costume_X1_hiresOf
theorem dX7_costume_0 : decode cX7_costume 0 = .ok (.aload_n 0, 1) := by decide +kernel
theorem dX7_costume_1 : decode cX7_costume 1 = .ok (.getfield 10, 3) := by decide +kernel
theorem dX7_costume_4 : decode cX7_costume 4 = .ok (.getfield 46, 3) := by decide +kernel
theorem dX7_costume_7 : decode cX7_costume 7 = .ok (.iload_n 1, 1) := by decide +kernel
theorem dX7_costume_8 : decode cX7_costume 8 = .ok (.invokevirtual 64, 3) := by decide +kernel
theorem dX7_costume_11 : decode cX7_costume 11 = .ok (.ifCond .ne 7, 3) := by decide +kernel
theorem dX7_costume_14 : decode cX7_costume 14 = .ok (.sipush (-2001), 3) := by decide +kernel
theorem dX7_costume_17 : decode cX7_costume 17 = .ok (.ireturn, 1) := by decide +kernel
theorem dX7_costume_18 : decode cX7_costume 18 = .ok (.iload_n 2, 1) := by decide +kernel
theorem dX7_costume_19 : decode cX7_costume 19 = .ok (.tableswitch 192 0 12 #[65, 65, 65, 78, 78, 78, 93, 108, 123, 138, 153, 168, 180], 65) := by decide +kernel
theorem dX7_costume_84 : decode cX7_costume 84 = .ok (.aload_n 0, 1) := by decide +kernel
theorem dX7_costume_85 : decode cX7_costume 85 = .ok (.getfield 10, 3) := by decide +kernel
theorem dX7_costume_88 : decode cX7_costume 88 = .ok (.getfield 46, 3) := by decide +kernel
theorem dX7_costume_91 : decode cX7_costume 91 = .ok (.iload_n 1, 1) := by decide +kernel
theorem dX7_costume_92 : decode cX7_costume 92 = .ok (.iload_n 2, 1) := by decide +kernel
theorem dX7_costume_93 : decode cX7_costume 93 = .ok (.invokevirtual 221, 3) := by decide +kernel
theorem dX7_costume_96 : decode cX7_costume 96 = .ok (.ireturn, 1) := by decide +kernel
theorem dX7_costume_97 : decode cX7_costume 97 = .ok (.aload_n 0, 1) := by decide +kernel
theorem dX7_costume_98 : decode cX7_costume 98 = .ok (.getfield 10, 3) := by decide +kernel
theorem dX7_costume_101 : decode cX7_costume 101 = .ok (.getfield 46, 3) := by decide +kernel
theorem dX7_costume_104 : decode cX7_costume 104 = .ok (.iload_n 1, 1) := by decide +kernel
theorem dX7_costume_105 : decode cX7_costume 105 = .ok (.iload_n 2, 1) := by decide +kernel
theorem dX7_costume_106 : decode cX7_costume 106 = .ok (.iconst 3, 1) := by decide +kernel
theorem dX7_costume_107 : decode cX7_costume 107 = .ok (.isub, 1) := by decide +kernel
theorem dX7_costume_108 : decode cX7_costume 108 = .ok (.invokevirtual 224, 3) := by decide +kernel
theorem dX7_costume_111 : decode cX7_costume 111 = .ok (.ireturn, 1) := by decide +kernel
theorem dX7_costume_112 : decode cX7_costume 112 = .ok (.aload_n 0, 1) := by decide +kernel
theorem dX7_costume_113 : decode cX7_costume 113 = .ok (.getfield 10, 3) := by decide +kernel
theorem dX7_costume_116 : decode cX7_costume 116 = .ok (.getfield 46, 3) := by decide +kernel
theorem dX7_costume_119 : decode cX7_costume 119 = .ok (.getfield 227, 3) := by decide +kernel
theorem dX7_costume_122 : decode cX7_costume 122 = .ok (.iload_n 1, 1) := by decide +kernel
theorem dX7_costume_123 : decode cX7_costume 123 = .ok (.invokestatic 72, 3) := by decide +kernel
theorem dX7_costume_126 : decode cX7_costume 126 = .ok (.ireturn, 1) := by decide +kernel
theorem dX7_costume_127 : decode cX7_costume 127 = .ok (.aload_n 0, 1) := by decide +kernel
theorem dX7_costume_128 : decode cX7_costume 128 = .ok (.getfield 10, 3) := by decide +kernel
theorem dX7_costume_131 : decode cX7_costume 131 = .ok (.getfield 46, 3) := by decide +kernel
theorem dX7_costume_134 : decode cX7_costume 134 = .ok (.getfield 230, 3) := by decide +kernel
theorem dX7_costume_137 : decode cX7_costume 137 = .ok (.iload_n 1, 1) := by decide +kernel
theorem dX7_costume_138 : decode cX7_costume 138 = .ok (.invokestatic 72, 3) := by decide +kernel
theorem dX7_costume_141 : decode cX7_costume 141 = .ok (.ireturn, 1) := by decide +kernel
theorem dX7_costume_142 : decode cX7_costume 142 = .ok (.aload_n 0, 1) := by decide +kernel
theorem dX7_costume_143 : decode cX7_costume 143 = .ok (.getfield 10, 3) := by decide +kernel
theorem dX7_costume_146 : decode cX7_costume 146 = .ok (.getfield 46, 3) := by decide +kernel
theorem dX7_costume_149 : decode cX7_costume 149 = .ok (.getfield 68, 3) := by decide +kernel
theorem dX7_costume_152 : decode cX7_costume 152 = .ok (.iload_n 1, 1) := by decide +kernel
theorem dX7_costume_153 : decode cX7_costume 153 = .ok (.invokestatic 72, 3) := by decide +kernel
theorem dX7_costume_156 : decode cX7_costume 156 = .ok (.ireturn, 1) := by decide +kernel
theorem dX7_costume_157 : decode cX7_costume 157 = .ok (.aload_n 0, 1) := by decide +kernel
theorem dX7_costume_158 : decode cX7_costume 158 = .ok (.getfield 10, 3) := by decide +kernel
theorem dX7_costume_161 : decode cX7_costume 161 = .ok (.getfield 46, 3) := by decide +kernel
theorem dX7_costume_164 : decode cX7_costume 164 = .ok (.getfield 233, 3) := by decide +kernel
theorem dX7_costume_167 : decode cX7_costume 167 = .ok (.iload_n 1, 1) := by decide +kernel
theorem dX7_costume_168 : decode cX7_costume 168 = .ok (.invokestatic 72, 3) := by decide +kernel
theorem dX7_costume_171 : decode cX7_costume 171 = .ok (.ireturn, 1) := by decide +kernel
theorem dX7_costume_172 : decode cX7_costume 172 = .ok (.aload_n 0, 1) := by decide +kernel
theorem dX7_costume_173 : decode cX7_costume 173 = .ok (.getfield 10, 3) := by decide +kernel
theorem dX7_costume_176 : decode cX7_costume 176 = .ok (.getfield 46, 3) := by decide +kernel
theorem dX7_costume_179 : decode cX7_costume 179 = .ok (.getfield 119, 3) := by decide +kernel
theorem dX7_costume_182 : decode cX7_costume 182 = .ok (.iload_n 1, 1) := by decide +kernel
theorem dX7_costume_183 : decode cX7_costume 183 = .ok (.invokestatic 72, 3) := by decide +kernel
theorem dX7_costume_186 : decode cX7_costume 186 = .ok (.ireturn, 1) := by decide +kernel
theorem dX7_costume_187 : decode cX7_costume 187 = .ok (.aload_n 0, 1) := by decide +kernel
theorem dX7_costume_188 : decode cX7_costume 188 = .ok (.getfield 10, 3) := by decide +kernel
theorem dX7_costume_191 : decode cX7_costume 191 = .ok (.getfield 80, 3) := by decide +kernel
theorem dX7_costume_194 : decode cX7_costume 194 = .ok (.iload_n 1, 1) := by decide +kernel
theorem dX7_costume_195 : decode cX7_costume 195 = .ok (.invokevirtual 236, 3) := by decide +kernel
theorem dX7_costume_198 : decode cX7_costume 198 = .ok (.ireturn, 1) := by decide +kernel
theorem dX7_costume_199 : decode cX7_costume 199 = .ok (.aload_n 0, 1) := by decide +kernel
theorem dX7_costume_200 : decode cX7_costume 200 = .ok (.getfield 10, 3) := by decide +kernel
theorem dX7_costume_203 : decode cX7_costume 203 = .ok (.getfield 167, 3) := by decide +kernel
theorem dX7_costume_206 : decode cX7_costume 206 = .ok (.iload_n 1, 1) := by decide +kernel
theorem dX7_costume_207 : decode cX7_costume 207 = .ok (.invokevirtual 239, 3) := by decide +kernel
theorem dX7_costume_210 : decode cX7_costume 210 = .ok (.ireturn, 1) := by decide +kernel
theorem dX7_costume_211 : decode cX7_costume 211 = .ok (.sipush (-2001), 3) := by decide +kernel
theorem dX7_costume_214 : decode cX7_costume 214 = .ok (.ireturn, 1) := by decide +kernel
set_option maxRecDepth 20000 in
theorem ggX7_alteration_X6_has : GoodIn wsX7_alteration wsX6_has := goodIn_r _ [10, 11, 36, 37, 38, 39, 40, 41, 42, 43, 44] (by decide +kernel) (by decide +kernel)
set_option maxRecDepth 20000 in
theorem gX7_alteration_X6_has : GoodIn wsX7_alteration (wsV RX7 64 RX6 yX6_has wsX6_has) := goodIn_app (goodIn_of _ (by decide +kernel)) ggX7_alteration_X6_has
set_option maxRecDepth 20000 in
theorem ggX7_alteration_X7_isWithin : GoodIn wsX7_alteration wsX7_isWithin := goodIn_r _ [15] (by decide +kernel) (by decide +kernel)
set_option maxRecDepth 20000 in
theorem gX7_alteration_X7_isWithin : GoodIn wsX7_alteration (va_wsS RX7 43 yX7_isWithin wsX7_isWithin) := goodIn_app (goodIn_of _ (by decide +kernel)) ggX7_alteration_X7_isWithin
set_option maxRecDepth 20000 in
theorem ggX7_alteration_X7_at : GoodIn wsX7_alteration wsX7_at := goodIn_r _ [18] (by decide +kernel) (by decide +kernel)
set_option maxRecDepth 20000 in
theorem gX7_alteration_X7_at : GoodIn wsX7_alteration (va_wsS RX7 72 yX7_at wsX7_at) := goodIn_app (goodIn_of _ (by decide +kernel)) ggX7_alteration_X7_at
set_option maxRecDepth 20000 in
theorem ggX7_alteration_X6_placeOf : GoodIn wsX7_alteration wsX6_placeOf := goodIn_r _ [22] (by decide +kernel) (by decide +kernel)
set_option maxRecDepth 20000 in
theorem gX7_alteration_X6_placeOf : GoodIn wsX7_alteration (wsV RX7 242 RX6 yX6_placeOf wsX6_placeOf) := goodIn_app (goodIn_of _ (by decide +kernel)) ggX7_alteration_X6_placeOf
theorem dX7_alteration_0 : decode cX7_alteration 0 = .ok (.aload_n 0, 1) := by decide +kernel
theorem dX7_alteration_1 : decode cX7_alteration 1 = .ok (.getfield 10, 3) := by decide +kernel
theorem dX7_alteration_4 : decode cX7_alteration 4 = .ok (.getfield 46, 3) := by decide +kernel
theorem dX7_alteration_7 : decode cX7_alteration 7 = .ok (.iload_n 1, 1) := by decide +kernel
theorem dX7_alteration_8 : decode cX7_alteration 8 = .ok (.invokevirtual 64, 3) := by decide +kernel
theorem dX7_alteration_11 : decode cX7_alteration 11 = .ok (.ifCond .eq 16, 3) := by decide +kernel
theorem dX7_alteration_14 : decode cX7_alteration 14 = .ok (.iload_n 2, 1) := by decide +kernel
theorem dX7_alteration_15 : decode cX7_alteration 15 = .ok (.ifCond .lt 12, 3) := by decide +kernel
theorem dX7_alteration_18 : decode cX7_alteration 18 = .ok (.iload_n 3, 1) := by decide +kernel
theorem dX7_alteration_19 : decode cX7_alteration 19 = .ok (.iconst 0, 1) := by decide +kernel
theorem dX7_alteration_20 : decode cX7_alteration 20 = .ok (.iconst 1, 1) := by decide +kernel
theorem dX7_alteration_21 : decode cX7_alteration 21 = .ok (.invokestatic 43, 3) := by decide +kernel
theorem dX7_alteration_24 : decode cX7_alteration 24 = .ok (.ifCond .ne 7, 3) := by decide +kernel
theorem dX7_alteration_27 : decode cX7_alteration 27 = .ok (.sipush (-2001), 3) := by decide +kernel
theorem dX7_alteration_30 : decode cX7_alteration 30 = .ok (.ireturn, 1) := by decide +kernel
theorem dX7_alteration_31 : decode cX7_alteration 31 = .ok (.iload_n 2, 1) := by decide +kernel
theorem dX7_alteration_32 : decode cX7_alteration 32 = .ok (.aload_n 0, 1) := by decide +kernel
theorem dX7_alteration_33 : decode cX7_alteration 33 = .ok (.getfield 10, 3) := by decide +kernel
theorem dX7_alteration_36 : decode cX7_alteration 36 = .ok (.getfield 46, 3) := by decide +kernel
theorem dX7_alteration_39 : decode cX7_alteration 39 = .ok (.getfield 119, 3) := by decide +kernel
theorem dX7_alteration_42 : decode cX7_alteration 42 = .ok (.iload_n 1, 1) := by decide +kernel
theorem dX7_alteration_43 : decode cX7_alteration 43 = .ok (.invokestatic 72, 3) := by decide +kernel
theorem dX7_alteration_46 : decode cX7_alteration 46 = .ok (.if_icmp .lt 7, 3) := by decide +kernel
theorem dX7_alteration_49 : decode cX7_alteration 49 = .ok (.sipush (-2009), 3) := by decide +kernel
theorem dX7_alteration_52 : decode cX7_alteration 52 = .ok (.ireturn, 1) := by decide +kernel
theorem dX7_alteration_53 : decode cX7_alteration 53 = .ok (.aload_n 0, 1) := by decide +kernel
theorem dX7_alteration_54 : decode cX7_alteration 54 = .ok (.getfield 10, 3) := by decide +kernel
theorem dX7_alteration_57 : decode cX7_alteration 57 = .ok (.getfield 46, 3) := by decide +kernel
theorem dX7_alteration_60 : decode cX7_alteration 60 = .ok (.iload_n 1, 1) := by decide +kernel
theorem dX7_alteration_61 : decode cX7_alteration 61 = .ok (.iload_n 2, 1) := by decide +kernel
theorem dX7_alteration_62 : decode cX7_alteration 62 = .ok (.invokevirtual 242, 3) := by decide +kernel
theorem dX7_alteration_65 : decode cX7_alteration 65 = .ok (.istore 4, 2) := by decide +kernel
theorem dX7_alteration_67 : decode cX7_alteration 67 = .ok (.iload_n 3, 1) := by decide +kernel
theorem dX7_alteration_68 : decode cX7_alteration 68 = .ok (.ifCond .ne 16, 3) := by decide +kernel
theorem dX7_alteration_71 : decode cX7_alteration 71 = .ok (.aload_n 0, 1) := by decide +kernel
theorem dX7_alteration_72 : decode cX7_alteration 72 = .ok (.getfield 10, 3) := by decide +kernel
theorem dX7_alteration_75 : decode cX7_alteration 75 = .ok (.getfield 46, 3) := by decide +kernel
theorem dX7_alteration_78 : decode cX7_alteration 78 = .ok (.getfield 245, 3) := by decide +kernel
theorem dX7_alteration_81 : decode cX7_alteration 81 = .ok (.goto 13, 3) := by decide +kernel
theorem dX7_alteration_84 : decode cX7_alteration 84 = .ok (.aload_n 0, 1) := by decide +kernel
theorem dX7_alteration_85 : decode cX7_alteration 85 = .ok (.getfield 10, 3) := by decide +kernel
theorem dX7_alteration_88 : decode cX7_alteration 88 = .ok (.getfield 46, 3) := by decide +kernel
theorem dX7_alteration_91 : decode cX7_alteration 91 = .ok (.getfield 248, 3) := by decide +kernel
theorem dX7_alteration_94 : decode cX7_alteration 94 = .ok (.iload 4, 2) := by decide +kernel
theorem dX7_alteration_96 : decode cX7_alteration 96 = .ok (.invokestatic 72, 3) := by decide +kernel
theorem dX7_alteration_99 : decode cX7_alteration 99 = .ok (.ireturn, 1) := by decide +kernel
set_option maxRecDepth 20000 in
theorem ggX7_actor_X0_has : GoodIn wsX7_actor wsX0_has := goodIn_r _ [7, 8, 38, 39, 40] (by decide +kernel) (by decide +kernel)
set_option maxRecDepth 20000 in
theorem gX7_actor_X0_has : GoodIn wsX7_actor (wsV RX7 151 RX0 yX0_has wsX0_has) := goodIn_app (goodIn_of _ (by decide +kernel)) ggX7_actor_X0_has
set_option maxRecDepth 20000 in
theorem ggX7_actor_X7_isWithin : GoodIn wsX7_actor wsX7_isWithin := goodIn_r _ [12] (by decide +kernel) (by decide +kernel)
set_option maxRecDepth 20000 in
theorem gX7_actor_X7_isWithin : GoodIn wsX7_actor (va_wsS RX7 43 yX7_isWithin wsX7_isWithin) := goodIn_app (goodIn_of _ (by decide +kernel)) ggX7_actor_X7_isWithin
set_option maxRecDepth 20000 in
theorem ggX7_actor_X0_measureOf : GoodIn wsX7_actor wsX0_measureOf := goodIn_r _ [16, 17, 18, 11, 19, 38, 39, 40] (by decide +kernel) (by decide +kernel)
set_option maxRecDepth 20000 in
theorem gX7_actor_X0_measureOf : GoodIn wsX7_actor (wsV RX7 251 RX0 yX0_measureOf wsX0_measureOf) := goodIn_app (goodIn_of _ (by decide +kernel)) ggX7_actor_X0_measureOf
set_option maxRecDepth 20000 in
theorem ggX7_actor_X0_wornIn : GoodIn wsX7_actor wsX0_wornIn := goodIn_r _ [23, 24, 18, 11, 19, 38, 39, 40] (by decide +kernel) (by decide +kernel)
set_option maxRecDepth 20000 in
theorem gX7_actor_X0_wornIn : GoodIn wsX7_actor (wsV RX7 254 RX0 yX0_wornIn wsX0_wornIn) := goodIn_app (goodIn_of _ (by decide +kernel)) ggX7_actor_X0_wornIn
theorem dX7_actor_0 : decode cX7_actor 0 = .ok (.aload_n 0, 1) := by decide +kernel
theorem dX7_actor_1 : decode cX7_actor 1 = .ok (.getfield 10, 3) := by decide +kernel
theorem dX7_actor_4 : decode cX7_actor 4 = .ok (.getfield 80, 3) := by decide +kernel
theorem dX7_actor_7 : decode cX7_actor 7 = .ok (.iload_n 1, 1) := by decide +kernel
theorem dX7_actor_8 : decode cX7_actor 8 = .ok (.invokevirtual 151, 3) := by decide +kernel
theorem dX7_actor_11 : decode cX7_actor 11 = .ok (.ifCond .eq 13, 3) := by decide +kernel
theorem dX7_actor_14 : decode cX7_actor 14 = .ok (.iload_n 2, 1) := by decide +kernel
theorem dX7_actor_15 : decode cX7_actor 15 = .ok (.iconst 0, 1) := by decide +kernel
theorem dX7_actor_16 : decode cX7_actor 16 = .ok (.bipush 14, 2) := by decide +kernel
theorem dX7_actor_18 : decode cX7_actor 18 = .ok (.invokestatic 43, 3) := by decide +kernel
theorem dX7_actor_21 : decode cX7_actor 21 = .ok (.ifCond .ne 7, 3) := by decide +kernel
theorem dX7_actor_24 : decode cX7_actor 24 = .ok (.sipush (-2001), 3) := by decide +kernel
theorem dX7_actor_27 : decode cX7_actor 27 = .ok (.ireturn, 1) := by decide +kernel
theorem dX7_actor_28 : decode cX7_actor 28 = .ok (.iload_n 2, 1) := by decide +kernel
theorem dX7_actor_29 : decode cX7_actor 29 = .ok (.iconst 3, 1) := by decide +kernel
theorem dX7_actor_30 : decode cX7_actor 30 = .ok (.if_icmp .ge 16, 3) := by decide +kernel
theorem dX7_actor_33 : decode cX7_actor 33 = .ok (.aload_n 0, 1) := by decide +kernel
theorem dX7_actor_34 : decode cX7_actor 34 = .ok (.getfield 10, 3) := by decide +kernel
theorem dX7_actor_37 : decode cX7_actor 37 = .ok (.getfield 80, 3) := by decide +kernel
theorem dX7_actor_40 : decode cX7_actor 40 = .ok (.iload_n 1, 1) := by decide +kernel
theorem dX7_actor_41 : decode cX7_actor 41 = .ok (.iload_n 2, 1) := by decide +kernel
theorem dX7_actor_42 : decode cX7_actor 42 = .ok (.invokevirtual 251, 3) := by decide +kernel
theorem dX7_actor_45 : decode cX7_actor 45 = .ok (.ireturn, 1) := by decide +kernel
theorem dX7_actor_46 : decode cX7_actor 46 = .ok (.aload_n 0, 1) := by decide +kernel
theorem dX7_actor_47 : decode cX7_actor 47 = .ok (.getfield 10, 3) := by decide +kernel
theorem dX7_actor_50 : decode cX7_actor 50 = .ok (.getfield 80, 3) := by decide +kernel
theorem dX7_actor_53 : decode cX7_actor 53 = .ok (.iload_n 2, 1) := by decide +kernel
theorem dX7_actor_54 : decode cX7_actor 54 = .ok (.iconst 3, 1) := by decide +kernel
theorem dX7_actor_55 : decode cX7_actor 55 = .ok (.isub, 1) := by decide +kernel
theorem dX7_actor_56 : decode cX7_actor 56 = .ok (.iload_n 1, 1) := by decide +kernel
theorem dX7_actor_57 : decode cX7_actor 57 = .ok (.invokevirtual 254, 3) := by decide +kernel
theorem dX7_actor_60 : decode cX7_actor 60 = .ok (.ireturn, 1) := by decide +kernel
set_option maxRecDepth 20000 in
theorem ggX7_hired_X1_has : GoodIn wsX7_hired wsX1_has := goodIn_r _ [11, 12, 30, 31, 32, 33, 34, 35] (by decide +kernel) (by decide +kernel)
set_option maxRecDepth 20000 in
theorem gX7_hired_X1_has : GoodIn wsX7_hired (wsV RX7 183 RX1 yX1_has wsX1_has) := goodIn_app (goodIn_of _ (by decide +kernel)) ggX7_hired_X1_has
set_option maxRecDepth 20000 in
theorem ggX7_hired_X7_at : GoodIn wsX7_hired wsX7_at := goodIn_r _ [16] (by decide +kernel) (by decide +kernel)
set_option maxRecDepth 20000 in
theorem gX7_hired_X7_at : GoodIn wsX7_hired (va_wsS RX7 72 yX7_at wsX7_at) := goodIn_app (goodIn_of _ (by decide +kernel)) ggX7_hired_X7_at
theorem dX7_hired_0 : decode cX7_hired 0 = .ok (.aload_n 0, 1) := by decide +kernel
theorem dX7_hired_1 : decode cX7_hired 1 = .ok (.getfield 10, 3) := by decide +kernel
theorem dX7_hired_4 : decode cX7_hired 4 = .ok (.getfield 167, 3) := by decide +kernel
theorem dX7_hired_7 : decode cX7_hired 7 = .ok (.iload_n 1, 1) := by decide +kernel
theorem dX7_hired_8 : decode cX7_hired 8 = .ok (.invokevirtual 183, 3) := by decide +kernel
theorem dX7_hired_11 : decode cX7_hired 11 = .ok (.ifCond .ne 7, 3) := by decide +kernel
theorem dX7_hired_14 : decode cX7_hired 14 = .ok (.sipush (-2001), 3) := by decide +kernel
theorem dX7_hired_17 : decode cX7_hired 17 = .ok (.ireturn, 1) := by decide +kernel
theorem dX7_hired_18 : decode cX7_hired 18 = .ok (.iload_n 2, 1) := by decide +kernel
theorem dX7_hired_19 : decode cX7_hired 19 = .ok (.tableswitch 89 0 3 #[29, 44, 59, 74], 29) := by decide +kernel
theorem dX7_hired_48 : decode cX7_hired 48 = .ok (.aload_n 0, 1) := by decide +kernel
theorem dX7_hired_49 : decode cX7_hired 49 = .ok (.getfield 10, 3) := by decide +kernel
theorem dX7_hired_52 : decode cX7_hired 52 = .ok (.getfield 167, 3) := by decide +kernel
theorem dX7_hired_55 : decode cX7_hired 55 = .ok (.getfield 257, 3) := by decide +kernel
theorem dX7_hired_58 : decode cX7_hired 58 = .ok (.iload_n 1, 1) := by decide +kernel
theorem dX7_hired_59 : decode cX7_hired 59 = .ok (.invokestatic 72, 3) := by decide +kernel
theorem dX7_hired_62 : decode cX7_hired 62 = .ok (.ireturn, 1) := by decide +kernel
theorem dX7_hired_63 : decode cX7_hired 63 = .ok (.aload_n 0, 1) := by decide +kernel
theorem dX7_hired_64 : decode cX7_hired 64 = .ok (.getfield 10, 3) := by decide +kernel
theorem dX7_hired_67 : decode cX7_hired 67 = .ok (.getfield 167, 3) := by decide +kernel
theorem dX7_hired_70 : decode cX7_hired 70 = .ok (.getfield 260, 3) := by decide +kernel
theorem dX7_hired_73 : decode cX7_hired 73 = .ok (.iload_n 1, 1) := by decide +kernel
theorem dX7_hired_74 : decode cX7_hired 74 = .ok (.invokestatic 72, 3) := by decide +kernel
theorem dX7_hired_77 : decode cX7_hired 77 = .ok (.ireturn, 1) := by decide +kernel
theorem dX7_hired_78 : decode cX7_hired 78 = .ok (.aload_n 0, 1) := by decide +kernel
theorem dX7_hired_79 : decode cX7_hired 79 = .ok (.getfield 10, 3) := by decide +kernel
theorem dX7_hired_82 : decode cX7_hired 82 = .ok (.getfield 167, 3) := by decide +kernel
theorem dX7_hired_85 : decode cX7_hired 85 = .ok (.getfield 263, 3) := by decide +kernel
theorem dX7_hired_88 : decode cX7_hired 88 = .ok (.iload_n 1, 1) := by decide +kernel
theorem dX7_hired_89 : decode cX7_hired 89 = .ok (.invokestatic 72, 3) := by decide +kernel
theorem dX7_hired_92 : decode cX7_hired 92 = .ok (.ireturn, 1) := by decide +kernel
theorem dX7_hired_93 : decode cX7_hired 93 = .ok (.aload_n 0, 1) := by decide +kernel
theorem dX7_hired_94 : decode cX7_hired 94 = .ok (.getfield 10, 3) := by decide +kernel
theorem dX7_hired_97 : decode cX7_hired 97 = .ok (.getfield 167, 3) := by decide +kernel
theorem dX7_hired_100 : decode cX7_hired 100 = .ok (.getfield 266, 3) := by decide +kernel
theorem dX7_hired_103 : decode cX7_hired 103 = .ok (.iload_n 1, 1) := by decide +kernel
theorem dX7_hired_104 : decode cX7_hired 104 = .ok (.invokestatic 72, 3) := by decide +kernel
theorem dX7_hired_107 : decode cX7_hired 107 = .ok (.ireturn, 1) := by decide +kernel
theorem dX7_hired_108 : decode cX7_hired 108 = .ok (.sipush (-2001), 3) := by decide +kernel
theorem dX7_hired_111 : decode cX7_hired 111 = .ok (.ireturn, 1) := by decide +kernel
set_option maxRecDepth 20000 in
theorem ggX7_problems_X7_isWithin : GoodIn wsX7_problems wsX7_isWithin := goodIn_r _ [5] (by decide +kernel) (by decide +kernel)
set_option maxRecDepth 20000 in
theorem gX7_problems_X7_isWithin : GoodIn wsX7_problems (va_wsS RX7 43 yX7_isWithin wsX7_isWithin) := goodIn_app (goodIn_of _ (by decide +kernel)) ggX7_problems_X7_isWithin
set_option maxRecDepth 20000 in
theorem ggX7_problems_X4_problemsOf : GoodIn wsX7_problems wsX4_problemsOf := goodIn_r _ [10, 11, 12, 13, 9, 14, 15, 16, 17, 18, 19, 20, 21, 22, 23, 24, 25, 26, 27, 28, 29, 4, 30, 31, 32, 33, 34, 35, 36, 37, 38, 39, 40, 41, 42, 43, 44, 45, 46, 47, 48, 49, 50, 51, 52, 53, 54, 55, 56, 57, 58, 59, 60, 61, 62, 63, 64, 65, 66, 67, 68, 69, 70, 71, 72, 73, 74, 75, 76, 77, 78, 79, 80, 81, 82, 83, 84, 85, 86, 87, 88, 89, 90, 91, 92, 93, 94, 95, 96, 97, 98, 99, 100, 101, 102, 103, 104, 109, 110, 111, 112, 113, 114, 115, 116, 117, 118, 119, 120, 121, 122, 123, 124, 125, 126, 127, 128, 129, 130, 131, 132, 133, 134, 135] (by decide +kernel) (by decide +kernel)
set_option maxRecDepth 20000 in
theorem gX7_problems_X4_problemsOf : GoodIn wsX7_problems (wsV RX7 155 RX4 yX4_problemsOf wsX4_problemsOf) := goodIn_app (goodIn_of _ (by decide +kernel)) ggX7_problems_X4_problemsOf
theorem dX7_problems_0 : decode cX7_problems 0 = .ok (.iload_n 1, 1) := by decide +kernel
theorem dX7_problems_1 : decode cX7_problems 1 = .ok (.iconst 0, 1) := by decide +kernel
theorem dX7_problems_2 : decode cX7_problems 2 = .ok (.iconst 4, 1) := by decide +kernel
theorem dX7_problems_3 : decode cX7_problems 3 = .ok (.invokestatic 43, 3) := by decide +kernel
theorem dX7_problems_6 : decode cX7_problems 6 = .ok (.ifCond .eq 14, 3) := by decide +kernel
theorem dX7_problems_9 : decode cX7_problems 9 = .ok (.aload_n 0, 1) := by decide +kernel
theorem dX7_problems_10 : decode cX7_problems 10 = .ok (.getfield 10, 3) := by decide +kernel
theorem dX7_problems_13 : decode cX7_problems 13 = .ok (.iload_n 1, 1) := by decide +kernel
theorem dX7_problems_14 : decode cX7_problems 14 = .ok (.invokevirtual 155, 3) := by decide +kernel
theorem dX7_problems_17 : decode cX7_problems 17 = .ok (.goto 6, 3) := by decide +kernel
theorem dX7_problems_20 : decode cX7_problems 20 = .ok (.sipush (-2001), 3) := by decide +kernel
theorem dX7_problems_23 : decode cX7_problems 23 = .ok (.ireturn, 1) := by decide +kernel
set_option maxRecDepth 20000 in
theorem ggX7_misfit_X6_has : GoodIn wsX7_misfit wsX6_has := goodIn_r _ [8, 9, 69, 70, 71, 72, 73, 74, 75, 76, 77] (by decide +kernel) (by decide +kernel)
set_option maxRecDepth 20000 in
theorem gX7_misfit_X6_has : GoodIn wsX7_misfit (wsV RX7 64 RX6 yX6_has wsX6_has) := goodIn_app (goodIn_of _ (by decide +kernel)) ggX7_misfit_X6_has
set_option maxRecDepth 20000 in
theorem ggX7_misfit_X0_has : GoodIn wsX7_misfit wsX0_has := goodIn_r _ [14, 15, 78, 79, 80] (by decide +kernel) (by decide +kernel)
set_option maxRecDepth 20000 in
theorem gX7_misfit_X0_has : GoodIn wsX7_misfit (wsV RX7 151 RX0 yX0_has wsX0_has) := goodIn_app (goodIn_of _ (by decide +kernel)) ggX7_misfit_X0_has
set_option maxRecDepth 20000 in
theorem ggX7_misfit_X4_misfitOf : GoodIn wsX7_misfit wsX4_misfitOf := goodIn_r _ [20, 21, 22, 23, 24, 25, 26, 27, 19, 28, 29, 30, 31, 32, 33, 34, 7, 35, 36, 37, 38, 39, 40, 41, 42, 43, 44, 45, 46, 47, 48, 49, 50, 51, 52, 53, 13, 54, 55, 60, 61, 62, 63, 64, 65, 66, 67, 68, 69, 70, 71, 72, 73, 74, 75, 76, 77, 78, 79, 80] (by decide +kernel) (by decide +kernel)
set_option maxRecDepth 20000 in
theorem gX7_misfit_X4_misfitOf : GoodIn wsX7_misfit (wsV RX7 269 RX4 yX4_misfitOf wsX4_misfitOf) := goodIn_app (goodIn_of _ (by decide +kernel)) ggX7_misfit_X4_misfitOf
theorem dX7_misfit_0 : decode cX7_misfit 0 = .ok (.aload_n 0, 1) := by decide +kernel
theorem dX7_misfit_1 : decode cX7_misfit 1 = .ok (.getfield 10, 3) := by decide +kernel
theorem dX7_misfit_4 : decode cX7_misfit 4 = .ok (.getfield 46, 3) := by decide +kernel
theorem dX7_misfit_7 : decode cX7_misfit 7 = .ok (.iload_n 1, 1) := by decide +kernel
theorem dX7_misfit_8 : decode cX7_misfit 8 = .ok (.invokevirtual 64, 3) := by decide +kernel
theorem dX7_misfit_11 : decode cX7_misfit 11 = .ok (.ifCond .eq 17, 3) := by decide +kernel
theorem dX7_misfit_14 : decode cX7_misfit 14 = .ok (.aload_n 0, 1) := by decide +kernel
theorem dX7_misfit_15 : decode cX7_misfit 15 = .ok (.getfield 10, 3) := by decide +kernel
theorem dX7_misfit_18 : decode cX7_misfit 18 = .ok (.getfield 80, 3) := by decide +kernel
theorem dX7_misfit_21 : decode cX7_misfit 21 = .ok (.iload_n 2, 1) := by decide +kernel
theorem dX7_misfit_22 : decode cX7_misfit 22 = .ok (.invokevirtual 151, 3) := by decide +kernel
theorem dX7_misfit_25 : decode cX7_misfit 25 = .ok (.ifCond .ne 7, 3) := by decide +kernel
theorem dX7_misfit_28 : decode cX7_misfit 28 = .ok (.sipush (-2001), 3) := by decide +kernel
theorem dX7_misfit_31 : decode cX7_misfit 31 = .ok (.ireturn, 1) := by decide +kernel
theorem dX7_misfit_32 : decode cX7_misfit 32 = .ok (.aload_n 0, 1) := by decide +kernel
theorem dX7_misfit_33 : decode cX7_misfit 33 = .ok (.getfield 10, 3) := by decide +kernel
theorem dX7_misfit_36 : decode cX7_misfit 36 = .ok (.iload_n 1, 1) := by decide +kernel
theorem dX7_misfit_37 : decode cX7_misfit 37 = .ok (.iload_n 2, 1) := by decide +kernel
theorem dX7_misfit_38 : decode cX7_misfit 38 = .ok (.invokevirtual 269, 3) := by decide +kernel
theorem dX7_misfit_41 : decode cX7_misfit 41 = .ok (.ireturn, 1) := by decide +kernel
set_option maxRecDepth 20000 in
theorem ggX7_leastAlteration_X6_has : GoodIn wsX7_leastAlteration wsX6_has := goodIn_r _ [8, 9, 79, 80, 81, 82, 83, 84, 85, 86, 87] (by decide +kernel) (by decide +kernel)
set_option maxRecDepth 20000 in
theorem gX7_leastAlteration_X6_has : GoodIn wsX7_leastAlteration (wsV RX7 64 RX6 yX6_has wsX6_has) := goodIn_app (goodIn_of _ (by decide +kernel)) ggX7_leastAlteration_X6_has
set_option maxRecDepth 20000 in
theorem ggX7_leastAlteration_X0_has : GoodIn wsX7_leastAlteration wsX0_has := goodIn_r _ [14, 15, 88, 89, 90] (by decide +kernel) (by decide +kernel)
set_option maxRecDepth 20000 in
theorem gX7_leastAlteration_X0_has : GoodIn wsX7_leastAlteration (wsV RX7 151 RX0 yX0_has wsX0_has) := goodIn_app (goodIn_of _ (by decide +kernel)) ggX7_leastAlteration_X0_has
set_option maxRecDepth 20000 in
theorem ggX7_leastAlteration_X4_leastChange : GoodIn wsX7_leastAlteration wsX4_leastChange := goodIn_r _ [20, 21, 22, 23, 24, 25, 26, 27, 28, 7, 29, 30, 31, 32, 33, 34, 35, 36, 19, 37, 38, 39, 40, 41, 42, 43, 44, 45, 46, 47, 48, 49, 50, 51, 52, 53, 54, 55, 56, 57, 13, 58, 59, 60, 61, 62, 63, 64, 65, 70, 71, 72, 73, 74, 75, 76, 77, 78, 79, 80, 81, 82, 83, 84, 85, 86, 87, 88, 89, 90] (by decide +kernel) (by decide +kernel)
set_option maxRecDepth 20000 in
theorem gX7_leastAlteration_X4_leastChange : GoodIn wsX7_leastAlteration (wsV RX7 272 RX4 yX4_leastChange wsX4_leastChange) := goodIn_app (goodIn_of _ (by decide +kernel)) ggX7_leastAlteration_X4_leastChange
theorem dX7_leastAlteration_0 : decode cX7_leastAlteration 0 = .ok (.aload_n 0, 1) := by decide +kernel
theorem dX7_leastAlteration_1 : decode cX7_leastAlteration 1 = .ok (.getfield 10, 3) := by decide +kernel
theorem dX7_leastAlteration_4 : decode cX7_leastAlteration 4 = .ok (.getfield 46, 3) := by decide +kernel
theorem dX7_leastAlteration_7 : decode cX7_leastAlteration 7 = .ok (.iload_n 1, 1) := by decide +kernel
theorem dX7_leastAlteration_8 : decode cX7_leastAlteration 8 = .ok (.invokevirtual 64, 3) := by decide +kernel
theorem dX7_leastAlteration_11 : decode cX7_leastAlteration 11 = .ok (.ifCond .eq 17, 3) := by decide +kernel
theorem dX7_leastAlteration_14 : decode cX7_leastAlteration 14 = .ok (.aload_n 0, 1) := by decide +kernel
theorem dX7_leastAlteration_15 : decode cX7_leastAlteration 15 = .ok (.getfield 10, 3) := by decide +kernel
theorem dX7_leastAlteration_18 : decode cX7_leastAlteration 18 = .ok (.getfield 80, 3) := by decide +kernel
theorem dX7_leastAlteration_21 : decode cX7_leastAlteration 21 = .ok (.iload_n 2, 1) := by decide +kernel
theorem dX7_leastAlteration_22 : decode cX7_leastAlteration 22 = .ok (.invokevirtual 151, 3) := by decide +kernel
theorem dX7_leastAlteration_25 : decode cX7_leastAlteration 25 = .ok (.ifCond .ne 7, 3) := by decide +kernel
theorem dX7_leastAlteration_28 : decode cX7_leastAlteration 28 = .ok (.sipush (-2001), 3) := by decide +kernel
theorem dX7_leastAlteration_31 : decode cX7_leastAlteration 31 = .ok (.ireturn, 1) := by decide +kernel
theorem dX7_leastAlteration_32 : decode cX7_leastAlteration 32 = .ok (.aload_n 0, 1) := by decide +kernel
theorem dX7_leastAlteration_33 : decode cX7_leastAlteration 33 = .ok (.getfield 10, 3) := by decide +kernel
theorem dX7_leastAlteration_36 : decode cX7_leastAlteration 36 = .ok (.iload_n 1, 1) := by decide +kernel
theorem dX7_leastAlteration_37 : decode cX7_leastAlteration 37 = .ok (.iload_n 2, 1) := by decide +kernel
theorem dX7_leastAlteration_38 : decode cX7_leastAlteration 38 = .ok (.invokevirtual 272, 3) := by decide +kernel
theorem dX7_leastAlteration_41 : decode cX7_leastAlteration 41 = .ok (.ireturn, 1) := by decide +kernel
set_option maxRecDepth 20000 in
theorem ggX7_costumeFor_X7_isWithin : GoodIn wsX7_costumeFor wsX7_isWithin := goodIn_r _ [6] (by decide +kernel) (by decide +kernel)
set_option maxRecDepth 20000 in
theorem gX7_costumeFor_X7_isWithin : GoodIn wsX7_costumeFor (va_wsS RX7 43 yX7_isWithin wsX7_isWithin) := goodIn_app (goodIn_of _ (by decide +kernel)) ggX7_costumeFor_X7_isWithin
set_option maxRecDepth 20000 in
theorem ggX7_costumeFor_X0_has : GoodIn wsX7_costumeFor wsX0_has := goodIn_r _ [11, 12, 128, 129, 130] (by decide +kernel) (by decide +kernel)
set_option maxRecDepth 20000 in
theorem gX7_costumeFor_X0_has : GoodIn wsX7_costumeFor (wsV RX7 151 RX0 yX0_has wsX0_has) := goodIn_app (goodIn_of _ (by decide +kernel)) ggX7_costumeFor_X0_has
set_option maxRecDepth 20000 in
theorem ggX7_costumeFor_X4_bestCostume : GoodIn wsX7_costumeFor wsX4_bestCostume := goodIn_r _ [17, 18, 19, 20, 21, 22, 16, 23, 24, 25, 26, 27, 28, 29, 30, 31, 32, 33, 34, 35, 36, 37, 38, 39, 40, 41, 42, 43, 44, 45, 46, 5, 47, 48, 49, 50, 51, 52, 53, 54, 55, 56, 57, 58, 59, 60, 61, 10, 62, 63, 64, 65, 66, 67, 68, 69, 70, 71, 12, 72, 73, 74, 75, 76, 77, 78, 79, 80, 81, 82, 83, 84, 85, 86, 87, 88, 89, 90, 91, 92, 93, 94, 95, 96, 97, 98, 99, 100, 101, 102, 103, 104, 105, 106, 107, 108, 109, 110, 111, 112, 113, 114, 119, 120, 121, 122, 123, 124, 125, 126, 127, 131, 132, 133, 134, 135, 136, 137, 138, 139, 140, 141, 142, 143, 144, 145, 128, 129, 130] (by decide +kernel) (by decide +kernel)
set_option maxRecDepth 20000 in
theorem gX7_costumeFor_X4_bestCostume : GoodIn wsX7_costumeFor (wsV RX7 275 RX4 yX4_bestCostume wsX4_bestCostume) := goodIn_app (goodIn_of _ (by decide +kernel)) ggX7_costumeFor_X4_bestCostume
theorem dX7_costumeFor_0 : decode cX7_costumeFor 0 = .ok (.iload_n 1, 1) := by decide +kernel
theorem dX7_costumeFor_1 : decode cX7_costumeFor 1 = .ok (.iconst 0, 1) := by decide +kernel
theorem dX7_costumeFor_2 : decode cX7_costumeFor 2 = .ok (.bipush 11, 2) := by decide +kernel
theorem dX7_costumeFor_4 : decode cX7_costumeFor 4 = .ok (.invokestatic 43, 3) := by decide +kernel
theorem dX7_costumeFor_7 : decode cX7_costumeFor 7 = .ok (.ifCond .eq 17, 3) := by decide +kernel
theorem dX7_costumeFor_10 : decode cX7_costumeFor 10 = .ok (.aload_n 0, 1) := by decide +kernel
theorem dX7_costumeFor_11 : decode cX7_costumeFor 11 = .ok (.getfield 10, 3) := by decide +kernel
theorem dX7_costumeFor_14 : decode cX7_costumeFor 14 = .ok (.getfield 80, 3) := by decide +kernel
theorem dX7_costumeFor_17 : decode cX7_costumeFor 17 = .ok (.iload_n 2, 1) := by decide +kernel
theorem dX7_costumeFor_18 : decode cX7_costumeFor 18 = .ok (.invokevirtual 151, 3) := by decide +kernel
theorem dX7_costumeFor_21 : decode cX7_costumeFor 21 = .ok (.ifCond .ne 7, 3) := by decide +kernel
theorem dX7_costumeFor_24 : decode cX7_costumeFor 24 = .ok (.sipush (-2001), 3) := by decide +kernel
theorem dX7_costumeFor_27 : decode cX7_costumeFor 27 = .ok (.ireturn, 1) := by decide +kernel
theorem dX7_costumeFor_28 : decode cX7_costumeFor 28 = .ok (.aload_n 0, 1) := by decide +kernel
theorem dX7_costumeFor_29 : decode cX7_costumeFor 29 = .ok (.getfield 10, 3) := by decide +kernel
theorem dX7_costumeFor_32 : decode cX7_costumeFor 32 = .ok (.iload_n 1, 1) := by decide +kernel
theorem dX7_costumeFor_33 : decode cX7_costumeFor 33 = .ok (.iload_n 2, 1) := by decide +kernel
theorem dX7_costumeFor_34 : decode cX7_costumeFor 34 = .ok (.invokevirtual 275, 3) := by decide +kernel
theorem dX7_costumeFor_37 : decode cX7_costumeFor 37 = .ok (.ireturn, 1) := by decide +kernel
set_option maxRecDepth 20000 in
theorem ggX7_freeFrom_X6_has : GoodIn wsX7_freeFrom wsX6_has := goodIn_r _ [9, 10, 47, 48, 49, 50, 51, 52, 53, 54, 55] (by decide +kernel) (by decide +kernel)
set_option maxRecDepth 20000 in
theorem gX7_freeFrom_X6_has : GoodIn wsX7_freeFrom (wsV RX7 64 RX6 yX6_has wsX6_has) := goodIn_app (goodIn_of _ (by decide +kernel)) ggX7_freeFrom_X6_has
set_option maxRecDepth 20000 in
theorem ggX7_freeFrom_X7_isWithin : GoodIn wsX7_freeFrom wsX7_isWithin := goodIn_r _ [14] (by decide +kernel) (by decide +kernel)
set_option maxRecDepth 20000 in
theorem gX7_freeFrom_X7_isWithin : GoodIn wsX7_freeFrom (va_wsS RX7 43 yX7_isWithin wsX7_isWithin) := goodIn_app (goodIn_of _ (by decide +kernel)) ggX7_freeFrom_X7_isWithin
set_option maxRecDepth 20000 in
theorem ggX7_freeFrom_X1_firstFree : GoodIn wsX7_freeFrom wsX1_firstFree := goodIn_r _ [19, 20, 21, 22, 18, 23, 24, 25, 26, 27, 13, 28, 29, 30, 31, 32, 33, 56, 57, 58, 59, 60, 61] (by decide +kernel) (by decide +kernel)
set_option maxRecDepth 20000 in
theorem gX7_freeFrom_X1_firstFree : GoodIn wsX7_freeFrom (wsV RX7 278 RX1 yX1_firstFree wsX1_firstFree) := goodIn_app (goodIn_of _ (by decide +kernel)) ggX7_freeFrom_X1_firstFree
theorem dX7_freeFrom_0 : decode cX7_freeFrom 0 = .ok (.aload_n 0, 1) := by decide +kernel
theorem dX7_freeFrom_1 : decode cX7_freeFrom 1 = .ok (.getfield 10, 3) := by decide +kernel
theorem dX7_freeFrom_4 : decode cX7_freeFrom 4 = .ok (.getfield 46, 3) := by decide +kernel
theorem dX7_freeFrom_7 : decode cX7_freeFrom 7 = .ok (.iload_n 1, 1) := by decide +kernel
theorem dX7_freeFrom_8 : decode cX7_freeFrom 8 = .ok (.invokevirtual 64, 3) := by decide +kernel
theorem dX7_freeFrom_11 : decode cX7_freeFrom 11 = .ok (.ifCond .eq 13, 3) := by decide +kernel
theorem dX7_freeFrom_14 : decode cX7_freeFrom 14 = .ok (.iload_n 2, 1) := by decide +kernel
theorem dX7_freeFrom_15 : decode cX7_freeFrom 15 = .ok (.iconst 1, 1) := by decide +kernel
theorem dX7_freeFrom_16 : decode cX7_freeFrom 16 = .ok (.bipush 60, 2) := by decide +kernel
theorem dX7_freeFrom_18 : decode cX7_freeFrom 18 = .ok (.invokestatic 43, 3) := by decide +kernel
theorem dX7_freeFrom_21 : decode cX7_freeFrom 21 = .ok (.ifCond .ne 7, 3) := by decide +kernel
theorem dX7_freeFrom_24 : decode cX7_freeFrom 24 = .ok (.sipush (-2001), 3) := by decide +kernel
theorem dX7_freeFrom_27 : decode cX7_freeFrom 27 = .ok (.ireturn, 1) := by decide +kernel
theorem dX7_freeFrom_28 : decode cX7_freeFrom 28 = .ok (.aload_n 0, 1) := by decide +kernel
theorem dX7_freeFrom_29 : decode cX7_freeFrom 29 = .ok (.getfield 10, 3) := by decide +kernel
theorem dX7_freeFrom_32 : decode cX7_freeFrom 32 = .ok (.getfield 167, 3) := by decide +kernel
theorem dX7_freeFrom_35 : decode cX7_freeFrom 35 = .ok (.iload_n 1, 1) := by decide +kernel
theorem dX7_freeFrom_36 : decode cX7_freeFrom 36 = .ok (.aload_n 0, 1) := by decide +kernel
theorem dX7_freeFrom_37 : decode cX7_freeFrom 37 = .ok (.getfield 10, 3) := by decide +kernel
theorem dX7_freeFrom_40 : decode cX7_freeFrom 40 = .ok (.getfield 158, 3) := by decide +kernel
theorem dX7_freeFrom_43 : decode cX7_freeFrom 43 = .ok (.iload_n 2, 1) := by decide +kernel
theorem dX7_freeFrom_44 : decode cX7_freeFrom 44 = .ok (.invokevirtual 278, 3) := by decide +kernel
theorem dX7_freeFrom_47 : decode cX7_freeFrom 47 = .ok (.ireturn, 1) := by decide +kernel
set_option maxRecDepth 20000 in
theorem ggX7_washable_X7_isProgram : GoodIn wsX7_washable wsX7_isProgram := goodIn_r _ [5, 6, 7, 4, 8] (by decide +kernel) (by decide +kernel)
set_option maxRecDepth 20000 in
theorem gX7_washable_X7_isProgram : GoodIn wsX7_washable (va_wsS RX7 190 yX7_isProgram wsX7_isProgram) := goodIn_app (goodIn_of _ (by decide +kernel)) ggX7_washable_X7_isProgram
set_option maxRecDepth 20000 in
theorem ggX7_washable_X7_isWithin : GoodIn wsX7_washable wsX7_isWithin := goodIn_r _ [8] (by decide +kernel) (by decide +kernel)
set_option maxRecDepth 20000 in
theorem gX7_washable_X7_isWithin : GoodIn wsX7_washable (va_wsS RX7 43 yX7_isWithin wsX7_isWithin) := goodIn_app (goodIn_of _ (by decide +kernel)) ggX7_washable_X7_isWithin
set_option maxRecDepth 20000 in
theorem ggX7_washable_X4_dirtySet : GoodIn wsX7_washable wsX4_dirtySet := goodIn_r _ [13, 14, 15, 16, 17, 18, 4, 19, 20, 21, 22, 12, 23, 24, 25, 26, 27, 28, 29, 30, 31, 32, 33, 34, 35, 36, 37, 38, 39, 40, 41, 42, 43, 44, 45, 46, 51, 52, 53, 54, 55, 56, 57, 58, 59, 60, 61, 62, 63, 64, 65, 66, 67, 68, 69, 70, 71, 72, 73, 74] (by decide +kernel) (by decide +kernel)
set_option maxRecDepth 20000 in
theorem gX7_washable_X4_dirtySet : GoodIn wsX7_washable (wsV RX7 281 RX4 yX4_dirtySet wsX4_dirtySet) := goodIn_app (goodIn_of _ (by decide +kernel)) ggX7_washable_X4_dirtySet
theorem dX7_washable_0 : decode cX7_washable 0 = .ok (.iload_n 1, 1) := by decide +kernel
theorem dX7_washable_1 : decode cX7_washable 1 = .ok (.invokestatic 190, 3) := by decide +kernel
theorem dX7_washable_4 : decode cX7_washable 4 = .ok (.ifCond .eq 12, 3) := by decide +kernel
theorem dX7_washable_7 : decode cX7_washable 7 = .ok (.iload_n 2, 1) := by decide +kernel
theorem dX7_washable_8 : decode cX7_washable 8 = .ok (.iconst 0, 1) := by decide +kernel
theorem dX7_washable_9 : decode cX7_washable 9 = .ok (.iconst 1, 1) := by decide +kernel
theorem dX7_washable_10 : decode cX7_washable 10 = .ok (.invokestatic 43, 3) := by decide +kernel
theorem dX7_washable_13 : decode cX7_washable 13 = .ok (.ifCond .ne 7, 3) := by decide +kernel
theorem dX7_washable_16 : decode cX7_washable 16 = .ok (.sipush (-2001), 3) := by decide +kernel
theorem dX7_washable_19 : decode cX7_washable 19 = .ok (.ireturn, 1) := by decide +kernel
theorem dX7_washable_20 : decode cX7_washable 20 = .ok (.aload_n 0, 1) := by decide +kernel
theorem dX7_washable_21 : decode cX7_washable 21 = .ok (.getfield 10, 3) := by decide +kernel
theorem dX7_washable_24 : decode cX7_washable 24 = .ok (.iload_n 1, 1) := by decide +kernel
theorem dX7_washable_25 : decode cX7_washable 25 = .ok (.iload_n 2, 1) := by decide +kernel
theorem dX7_washable_26 : decode cX7_washable 26 = .ok (.invokevirtual 281, 3) := by decide +kernel
theorem dX7_washable_29 : decode cX7_washable 29 = .ok (.ireturn, 1) := by decide +kernel
theorem dX7_isWithin_0 : decode cX7_isWithin 0 = .ok (.iload_n 0, 1) := by decide +kernel
theorem dX7_isWithin_1 : decode cX7_isWithin 1 = .ok (.iload_n 1, 1) := by decide +kernel
theorem dX7_isWithin_2 : decode cX7_isWithin 2 = .ok (.if_icmp .lt 12, 3) := by decide +kernel
theorem dX7_isWithin_5 : decode cX7_isWithin 5 = .ok (.iload_n 0, 1) := by decide +kernel
theorem dX7_isWithin_6 : decode cX7_isWithin 6 = .ok (.iload_n 2, 1) := by decide +kernel
theorem dX7_isWithin_7 : decode cX7_isWithin 7 = .ok (.if_icmp .gt 7, 3) := by decide +kernel
theorem dX7_isWithin_10 : decode cX7_isWithin 10 = .ok (.iconst 1, 1) := by decide +kernel
theorem dX7_isWithin_11 : decode cX7_isWithin 11 = .ok (.goto 4, 3) := by decide +kernel
theorem dX7_isWithin_14 : decode cX7_isWithin 14 = .ok (.iconst 0, 1) := by decide +kernel
theorem dX7_isWithin_15 : decode cX7_isWithin 15 = .ok (.ireturn, 1) := by decide +kernel
set_option maxRecDepth 20000 in
theorem ggX7_areMeasures_X7_isWithin : GoodIn wsX7_areMeasures wsX7_isWithin := goodIn_r _ [4] (by decide +kernel) (by decide +kernel)
set_option maxRecDepth 20000 in
theorem gX7_areMeasures_X7_isWithin : GoodIn wsX7_areMeasures (va_wsS RX7 43 yX7_isWithin wsX7_isWithin) := goodIn_app (goodIn_of _ (by decide +kernel)) ggX7_areMeasures_X7_isWithin
theorem dX7_areMeasures_0 : decode cX7_areMeasures 0 = .ok (.iload_n 0, 1) := by decide +kernel
theorem dX7_areMeasures_1 : decode cX7_areMeasures 1 = .ok (.bipush 40, 2) := by decide +kernel
theorem dX7_areMeasures_3 : decode cX7_areMeasures 3 = .ok (.sipush 200, 3) := by decide +kernel
theorem dX7_areMeasures_6 : decode cX7_areMeasures 6 = .ok (.invokestatic 43, 3) := by decide +kernel
theorem dX7_areMeasures_9 : decode cX7_areMeasures 9 = .ok (.ifCond .eq 31, 3) := by decide +kernel
theorem dX7_areMeasures_12 : decode cX7_areMeasures 12 = .ok (.iload_n 1, 1) := by decide +kernel
theorem dX7_areMeasures_13 : decode cX7_areMeasures 13 = .ok (.bipush 40, 2) := by decide +kernel
theorem dX7_areMeasures_15 : decode cX7_areMeasures 15 = .ok (.sipush 200, 3) := by decide +kernel
theorem dX7_areMeasures_18 : decode cX7_areMeasures 18 = .ok (.invokestatic 43, 3) := by decide +kernel
theorem dX7_areMeasures_21 : decode cX7_areMeasures 21 = .ok (.ifCond .eq 19, 3) := by decide +kernel
theorem dX7_areMeasures_24 : decode cX7_areMeasures 24 = .ok (.iload_n 2, 1) := by decide +kernel
theorem dX7_areMeasures_25 : decode cX7_areMeasures 25 = .ok (.bipush 40, 2) := by decide +kernel
theorem dX7_areMeasures_27 : decode cX7_areMeasures 27 = .ok (.sipush 200, 3) := by decide +kernel
theorem dX7_areMeasures_30 : decode cX7_areMeasures 30 = .ok (.invokestatic 43, 3) := by decide +kernel
theorem dX7_areMeasures_33 : decode cX7_areMeasures 33 = .ok (.ifCond .eq 7, 3) := by decide +kernel
theorem dX7_areMeasures_36 : decode cX7_areMeasures 36 = .ok (.iconst 1, 1) := by decide +kernel
theorem dX7_areMeasures_37 : decode cX7_areMeasures 37 = .ok (.goto 4, 3) := by decide +kernel
theorem dX7_areMeasures_40 : decode cX7_areMeasures 40 = .ok (.iconst 0, 1) := by decide +kernel
theorem dX7_areMeasures_41 : decode cX7_areMeasures 41 = .ok (.ireturn, 1) := by decide +kernel
set_option maxRecDepth 20000 in
theorem ggX7_isSetting_X7_isWithin : GoodIn wsX7_isSetting wsX7_isWithin := goodIn_r _ [4] (by decide +kernel) (by decide +kernel)
set_option maxRecDepth 20000 in
theorem gX7_isSetting_X7_isWithin : GoodIn wsX7_isSetting (va_wsS RX7 43 yX7_isWithin wsX7_isWithin) := goodIn_app (goodIn_of _ (by decide +kernel)) ggX7_isSetting_X7_isWithin
theorem dX7_isSetting_0 : decode cX7_isSetting 0 = .ok (.iload_n 0, 1) := by decide +kernel
theorem dX7_isSetting_1 : decode cX7_isSetting 1 = .ok (.iconst 3, 1) := by decide +kernel
theorem dX7_isSetting_2 : decode cX7_isSetting 2 = .ok (.if_icmp .ne 13, 3) := by decide +kernel
theorem dX7_isSetting_5 : decode cX7_isSetting 5 = .ok (.iload_n 1, 1) := by decide +kernel
theorem dX7_isSetting_6 : decode cX7_isSetting 6 = .ok (.iconst 1, 1) := by decide +kernel
theorem dX7_isSetting_7 : decode cX7_isSetting 7 = .ok (.bipush 9, 2) := by decide +kernel
theorem dX7_isSetting_9 : decode cX7_isSetting 9 = .ok (.invokestatic 43, 3) := by decide +kernel
theorem dX7_isSetting_12 : decode cX7_isSetting 12 = .ok (.goto 10, 3) := by decide +kernel
theorem dX7_isSetting_15 : decode cX7_isSetting 15 = .ok (.iload_n 1, 1) := by decide +kernel
theorem dX7_isSetting_16 : decode cX7_isSetting 16 = .ok (.iconst 0, 1) := by decide +kernel
theorem dX7_isSetting_17 : decode cX7_isSetting 17 = .ok (.bipush 20, 2) := by decide +kernel
theorem dX7_isSetting_19 : decode cX7_isSetting 19 = .ok (.invokestatic 43, 3) := by decide +kernel
theorem dX7_isSetting_22 : decode cX7_isSetting 22 = .ok (.ireturn, 1) := by decide +kernel
set_option maxRecDepth 20000 in
theorem ggX7_isProgram_X7_isWithin : GoodIn wsX7_isProgram wsX7_isWithin := goodIn_r _ [4] (by decide +kernel) (by decide +kernel)
set_option maxRecDepth 20000 in
theorem gX7_isProgram_X7_isWithin : GoodIn wsX7_isProgram (va_wsS RX7 43 yX7_isWithin wsX7_isWithin) := goodIn_app (goodIn_of _ (by decide +kernel)) ggX7_isProgram_X7_isWithin
theorem dX7_isProgram_0 : decode cX7_isProgram 0 = .ok (.iload_n 0, 1) := by decide +kernel
theorem dX7_isProgram_1 : decode cX7_isProgram 1 = .ok (.iconst 0, 1) := by decide +kernel
theorem dX7_isProgram_2 : decode cX7_isProgram 2 = .ok (.iconst 3, 1) := by decide +kernel
theorem dX7_isProgram_3 : decode cX7_isProgram 3 = .ok (.invokestatic 43, 3) := by decide +kernel
theorem dX7_isProgram_6 : decode cX7_isProgram 6 = .ok (.ireturn, 1) := by decide +kernel
theorem dX7_isSetOfCostumes_0 : decode cX7_isSetOfCostumes 0 = .ok (.iload_n 1, 1) := by decide +kernel
theorem dX7_isSetOfCostumes_1 : decode cX7_isSetOfCostumes 1 = .ok (.aload_n 0, 1) := by decide +kernel
theorem dX7_isSetOfCostumes_2 : decode cX7_isSetOfCostumes 2 = .ok (.getfield 10, 3) := by decide +kernel
theorem dX7_isSetOfCostumes_5 : decode cX7_isSetOfCostumes 5 = .ok (.getfield 46, 3) := by decide +kernel
theorem dX7_isSetOfCostumes_8 : decode cX7_isSetOfCostumes 8 = .ok (.getfield 50, 3) := by decide +kernel
theorem dX7_isSetOfCostumes_11 : decode cX7_isSetOfCostumes 11 = .ok (.iushr, 1) := by decide +kernel
theorem dX7_isSetOfCostumes_12 : decode cX7_isSetOfCostumes 12 = .ok (.ifCond .ne 7, 3) := by decide +kernel
theorem dX7_isSetOfCostumes_15 : decode cX7_isSetOfCostumes 15 = .ok (.iconst 1, 1) := by decide +kernel
theorem dX7_isSetOfCostumes_16 : decode cX7_isSetOfCostumes 16 = .ok (.goto 4, 3) := by decide +kernel
theorem dX7_isSetOfCostumes_19 : decode cX7_isSetOfCostumes 19 = .ok (.iconst 0, 1) := by decide +kernel
theorem dX7_isSetOfCostumes_20 : decode cX7_isSetOfCostumes 20 = .ok (.ireturn, 1) := by decide +kernel
theorem dX7_at_0 : decode cX7_at 0 = .ok (.iload_n 1, 1) := by decide +kernel
theorem dX7_at_1 : decode cX7_at 1 = .ok (.ifCond .lt 15, 3) := by decide +kernel
theorem dX7_at_4 : decode cX7_at 4 = .ok (.iload_n 1, 1) := by decide +kernel
theorem dX7_at_5 : decode cX7_at 5 = .ok (.aload_n 0, 1) := by decide +kernel
theorem dX7_at_6 : decode cX7_at 6 = .ok (.arraylength, 1) := by decide +kernel
theorem dX7_at_7 : decode cX7_at 7 = .ok (.if_icmp .ge 9, 3) := by decide +kernel
theorem dX7_at_10 : decode cX7_at 10 = .ok (.aload_n 0, 1) := by decide +kernel
theorem dX7_at_11 : decode cX7_at 11 = .ok (.iload_n 1, 1) := by decide +kernel
theorem dX7_at_12 : decode cX7_at 12 = .ok (.iaload, 1) := by decide +kernel
theorem dX7_at_13 : decode cX7_at 13 = .ok (.goto 4, 3) := by decide +kernel
theorem dX7_at_16 : decode cX7_at 16 = .ok (.iconst 0, 1) := by decide +kernel
theorem dX7_at_17 : decode cX7_at 17 = .ok (.ireturn, 1) := by decide +kernel
theorem dX7_put_0 : decode cX7_put 0 = .ok (.iload_n 1, 1) := by decide +kernel
theorem dX7_put_1 : decode cX7_put 1 = .ok (.ifCond .lt 13, 3) := by decide +kernel
theorem dX7_put_4 : decode cX7_put 4 = .ok (.iload_n 1, 1) := by decide +kernel
theorem dX7_put_5 : decode cX7_put 5 = .ok (.aload_n 0, 1) := by decide +kernel
theorem dX7_put_6 : decode cX7_put 6 = .ok (.arraylength, 1) := by decide +kernel
theorem dX7_put_7 : decode cX7_put 7 = .ok (.if_icmp .ge 7, 3) := by decide +kernel
theorem dX7_put_10 : decode cX7_put 10 = .ok (.aload_n 0, 1) := by decide +kernel
theorem dX7_put_11 : decode cX7_put 11 = .ok (.iload_n 1, 1) := by decide +kernel
theorem dX7_put_12 : decode cX7_put 12 = .ok (.iload_n 2, 1) := by decide +kernel
theorem dX7_put_13 : decode cX7_put 13 = .ok (.iastore, 1) := by decide +kernel
theorem dX7_put_14 : decode cX7_put 14 = .ok (.return_, 1) := by decide +kernel
theorem dX7_copyRow_0 : decode cX7_copyRow 0 = .ok (.aload_n 0, 1) := by decide +kernel
theorem dX7_copyRow_1 : decode cX7_copyRow 1 = .ok (.iconst 0, 1) := by decide +kernel
theorem dX7_copyRow_2 : decode cX7_copyRow 2 = .ok (.aload_n 1, 1) := by decide +kernel
theorem dX7_copyRow_3 : decode cX7_copyRow 3 = .ok (.iconst 0, 1) := by decide +kernel
theorem dX7_copyRow_4 : decode cX7_copyRow 4 = .ok (.aload_n 0, 1) := by decide +kernel
theorem dX7_copyRow_5 : decode cX7_copyRow 5 = .ok (.arraylength, 1) := by decide +kernel
theorem dX7_copyRow_6 : decode cX7_copyRow 6 = .ok (.aload_n 1, 1) := by decide +kernel
theorem dX7_copyRow_7 : decode cX7_copyRow 7 = .ok (.arraylength, 1) := by decide +kernel
theorem dX7_copyRow_8 : decode cX7_copyRow 8 = .ok (.invokestatic 284, 3) := by decide +kernel
theorem dX7_copyRow_11 : decode cX7_copyRow 11 = .ok (.invokestatic 287, 3) := by decide +kernel
theorem dX7_copyRow_14 : decode cX7_copyRow 14 = .ok (.return_, 1) := by decide +kernel
theorem dX7_isIn_0 : decode cX7_isIn 0 = .ok (.iload_n 0, 1) := by decide +kernel
theorem dX7_isIn_1 : decode cX7_isIn 1 = .ok (.iload_n 1, 1) := by decide +kernel
theorem dX7_isIn_2 : decode cX7_isIn 2 = .ok (.ishr, 1) := by decide +kernel
theorem dX7_isIn_3 : decode cX7_isIn 3 = .ok (.iconst 1, 1) := by decide +kernel
theorem dX7_isIn_4 : decode cX7_isIn 4 = .ok (.iand, 1) := by decide +kernel
theorem dX7_isIn_5 : decode cX7_isIn 5 = .ok (.ifCond .eq 7, 3) := by decide +kernel
theorem dX7_isIn_8 : decode cX7_isIn 8 = .ok (.iconst 1, 1) := by decide +kernel
theorem dX7_isIn_9 : decode cX7_isIn 9 = .ok (.goto 4, 3) := by decide +kernel
theorem dX7_isIn_12 : decode cX7_isIn 12 = .ok (.iconst 0, 1) := by decide +kernel
theorem dX7_isIn_13 : decode cX7_isIn 13 = .ok (.ireturn, 1) := by decide +kernel
theorem dX8_init_0 : decode cX8_init 0 = .ok (.aload_n 0, 1) := by decide +kernel
theorem dX8_init_1 : decode cX8_init 1 = .ok (.invokespecial 1, 3) := by decide +kernel
theorem dX8_init_4 : decode cX8_init 4 = .ok (.aload_n 0, 1) := by decide +kernel
theorem dX8_init_5 : decode cX8_init 5 = .ok (.sipush 572, 3) := by decide +kernel
theorem dX8_init_8 : decode cX8_init 8 = .ok (.newarray .int, 2) := by decide +kernel
theorem dX8_init_10 : decode cX8_init 10 = .ok (.putfield 7, 3) := by decide +kernel
theorem dX8_init_13 : decode cX8_init 13 = .ok (.aload_n 0, 1) := by decide +kernel
theorem dX8_init_14 : decode cX8_init 14 = .ok (.sipush 572, 3) := by decide +kernel
theorem dX8_init_17 : decode cX8_init 17 = .ok (.newarray .int, 2) := by decide +kernel
theorem dX8_init_19 : decode cX8_init 19 = .ok (.putfield 13, 3) := by decide +kernel
theorem dX8_init_22 : decode cX8_init 22 = .ok (.aload_n 0, 1) := by decide +kernel
theorem dX8_init_23 : decode cX8_init 23 = .ok (.sipush 2860, 3) := by decide +kernel
theorem dX8_init_26 : decode cX8_init 26 = .ok (.newarray .int, 2) := by decide +kernel
theorem dX8_init_28 : decode cX8_init 28 = .ok (.putfield 16, 3) := by decide +kernel
theorem dX8_init_31 : decode cX8_init 31 = .ok (.aload_n 0, 1) := by decide +kernel
theorem dX8_init_32 : decode cX8_init 32 = .ok (.bipush 120, 2) := by decide +kernel
theorem dX8_init_34 : decode cX8_init 34 = .ok (.newarray .int, 2) := by decide +kernel
theorem dX8_init_36 : decode cX8_init 36 = .ok (.putfield 19, 3) := by decide +kernel
theorem dX8_init_39 : decode cX8_init 39 = .ok (.aload_n 0, 1) := by decide +kernel
theorem dX8_init_40 : decode cX8_init 40 = .ok (.iconst 0, 1) := by decide +kernel
theorem dX8_init_41 : decode cX8_init 41 = .ok (.putfield 22, 3) := by decide +kernel
theorem dX8_init_44 : decode cX8_init 44 = .ok (.aload_n 0, 1) := by decide +kernel
theorem dX8_init_45 : decode cX8_init 45 = .ok (.getfield 7, 3) := by decide +kernel
theorem dX8_init_48 : decode cX8_init 48 = .ok (.bipush 8, 2) := by decide +kernel
theorem dX8_init_50 : decode cX8_init 50 = .ok (.bipush 6, 2) := by decide +kernel
theorem dX8_init_52 : decode cX8_init 52 = .ok (.iastore, 1) := by decide +kernel
theorem dX8_init_53 : decode cX8_init 53 = .ok (.aload_n 0, 1) := by decide +kernel
theorem dX8_init_54 : decode cX8_init 54 = .ok (.getfield 7, 3) := by decide +kernel
theorem dX8_init_57 : decode cX8_init 57 = .ok (.bipush 9, 2) := by decide +kernel
theorem dX8_init_59 : decode cX8_init 59 = .ok (.bipush 6, 2) := by decide +kernel
theorem dX8_init_61 : decode cX8_init 61 = .ok (.iastore, 1) := by decide +kernel
theorem dX8_init_62 : decode cX8_init 62 = .ok (.aload_n 0, 1) := by decide +kernel
theorem dX8_init_63 : decode cX8_init 63 = .ok (.getfield 7, 3) := by decide +kernel
theorem dX8_init_66 : decode cX8_init 66 = .ok (.bipush 10, 2) := by decide +kernel
theorem dX8_init_68 : decode cX8_init 68 = .ok (.iconst 4, 1) := by decide +kernel
theorem dX8_init_69 : decode cX8_init 69 = .ok (.iastore, 1) := by decide +kernel
theorem dX8_init_70 : decode cX8_init 70 = .ok (.aload_n 0, 1) := by decide +kernel
theorem dX8_init_71 : decode cX8_init 71 = .ok (.getfield 7, 3) := by decide +kernel
theorem dX8_init_74 : decode cX8_init 74 = .ok (.bipush 11, 2) := by decide +kernel
theorem dX8_init_76 : decode cX8_init 76 = .ok (.iconst 5, 1) := by decide +kernel
theorem dX8_init_77 : decode cX8_init 77 = .ok (.iastore, 1) := by decide +kernel
theorem dX8_init_78 : decode cX8_init 78 = .ok (.return_, 1) := by decide +kernel
theorem dX8_in_0 : decode cX8_in 0 = .ok (.lload_n 0, 1) := by decide +kernel
theorem dX8_in_1 : decode cX8_in 1 = .ok (.lload_n 2, 1) := by decide +kernel
theorem dX8_in_2 : decode cX8_in 2 = .ok (.lcmp, 1) := by decide +kernel
theorem dX8_in_3 : decode cX8_in 3 = .ok (.ifCond .lt 14, 3) := by decide +kernel
theorem dX8_in_6 : decode cX8_in 6 = .ok (.lload_n 0, 1) := by decide +kernel
theorem dX8_in_7 : decode cX8_in 7 = .ok (.lload 4, 2) := by decide +kernel
theorem dX8_in_9 : decode cX8_in 9 = .ok (.lcmp, 1) := by decide +kernel
theorem dX8_in_10 : decode cX8_in 10 = .ok (.ifCond .gt 7, 3) := by decide +kernel
theorem dX8_in_13 : decode cX8_in 13 = .ok (.iconst 1, 1) := by decide +kernel
theorem dX8_in_14 : decode cX8_in 14 = .ok (.goto 4, 3) := by decide +kernel
theorem dX8_in_17 : decode cX8_in 17 = .ok (.iconst 0, 1) := by decide +kernel
theorem dX8_in_18 : decode cX8_in 18 = .ok (.ireturn, 1) := by decide +kernel
theorem dX8_distance_0 : decode cX8_distance 0 = .ok (.iload_n 0, 1) := by decide +kernel
theorem dX8_distance_1 : decode cX8_distance 1 = .ok (.iload_n 1, 1) := by decide +kernel
theorem dX8_distance_2 : decode cX8_distance 2 = .ok (.if_icmp .ge 9, 3) := by decide +kernel
theorem dX8_distance_5 : decode cX8_distance 5 = .ok (.iload_n 1, 1) := by decide +kernel
theorem dX8_distance_6 : decode cX8_distance 6 = .ok (.iload_n 0, 1) := by decide +kernel
theorem dX8_distance_7 : decode cX8_distance 7 = .ok (.isub, 1) := by decide +kernel
theorem dX8_distance_8 : decode cX8_distance 8 = .ok (.goto 6, 3) := by decide +kernel
theorem dX8_distance_11 : decode cX8_distance 11 = .ok (.iload_n 0, 1) := by decide +kernel
theorem dX8_distance_12 : decode cX8_distance 12 = .ok (.iload_n 1, 1) := by decide +kernel
theorem dX8_distance_13 : decode cX8_distance 13 = .ok (.isub, 1) := by decide +kernel
theorem dX8_distance_14 : decode cX8_distance 14 = .ok (.ireturn, 1) := by decide +kernel
theorem dX8_act_0 : decode cX8_act 0 = .ok (.aload_n 0, 1) := by decide +kernel
theorem dX8_act_1 : decode cX8_act 1 = .ok (.getfield 26, 3) := by decide +kernel
theorem dX8_act_4 : decode cX8_act 4 = .ok (.iconst 5, 1) := by decide +kernel
theorem dX8_act_5 : decode cX8_act 5 = .ok (.if_icmp .ne 44, 3) := by decide +kernel
theorem dX8_act_8 : decode cX8_act 8 = .ok (.iconst 0, 1) := by decide +kernel
theorem dX8_act_9 : decode cX8_act 9 = .ok (.istore_n 1, 1) := by decide +kernel
theorem dX8_act_10 : decode cX8_act 10 = .ok (.iload_n 1, 1) := by decide +kernel
theorem dX8_act_11 : decode cX8_act 11 = .ok (.sipush 2288, 3) := by decide +kernel
theorem dX8_act_14 : decode cX8_act 14 = .ok (.if_icmp .ge 25, 3) := by decide +kernel
theorem dX8_act_17 : decode cX8_act 17 = .ok (.aload_n 0, 1) := by decide +kernel
theorem dX8_act_18 : decode cX8_act 18 = .ok (.getfield 16, 3) := by decide +kernel
theorem dX8_act_21 : decode cX8_act 21 = .ok (.iload_n 1, 1) := by decide +kernel
theorem dX8_act_22 : decode cX8_act 22 = .ok (.aload_n 0, 1) := by decide +kernel
theorem dX8_act_23 : decode cX8_act 23 = .ok (.getfield 16, 3) := by decide +kernel
theorem dX8_act_26 : decode cX8_act 26 = .ok (.iload_n 1, 1) := by decide +kernel
theorem dX8_act_27 : decode cX8_act 27 = .ok (.sipush 572, 3) := by decide +kernel
theorem dX8_act_30 : decode cX8_act 30 = .ok (.iadd, 1) := by decide +kernel
theorem dX8_act_31 : decode cX8_act 31 = .ok (.iaload, 1) := by decide +kernel
theorem dX8_act_32 : decode cX8_act 32 = .ok (.iastore, 1) := by decide +kernel
theorem dX8_act_33 : decode cX8_act 33 = .ok (.iinc 1 1, 3) := by decide +kernel
theorem dX8_act_36 : decode cX8_act 36 = .ok (.goto (-26), 3) := by decide +kernel
theorem dX8_act_39 : decode cX8_act 39 = .ok (.aload_n 0, 1) := by decide +kernel
theorem dX8_act_40 : decode cX8_act 40 = .ok (.dup, 1) := by decide +kernel
theorem dX8_act_41 : decode cX8_act 41 = .ok (.getfield 26, 3) := by decide +kernel
theorem dX8_act_44 : decode cX8_act 44 = .ok (.iconst 1, 1) := by decide +kernel
theorem dX8_act_45 : decode cX8_act 45 = .ok (.isub, 1) := by decide +kernel
theorem dX8_act_46 : decode cX8_act 46 = .ok (.putfield 26, 3) := by decide +kernel
theorem dX8_act_49 : decode cX8_act 49 = .ok (.iconst 0, 1) := by decide +kernel
theorem dX8_act_50 : decode cX8_act 50 = .ok (.istore_n 1, 1) := by decide +kernel
theorem dX8_act_51 : decode cX8_act 51 = .ok (.iload_n 1, 1) := by decide +kernel
theorem dX8_act_52 : decode cX8_act 52 = .ok (.sipush 572, 3) := by decide +kernel
theorem dX8_act_55 : decode cX8_act 55 = .ok (.if_icmp .ge 30, 3) := by decide +kernel
theorem dX8_act_58 : decode cX8_act 58 = .ok (.aload_n 0, 1) := by decide +kernel
theorem dX8_act_59 : decode cX8_act 59 = .ok (.getfield 16, 3) := by decide +kernel
theorem dX8_act_62 : decode cX8_act 62 = .ok (.sipush 572, 3) := by decide +kernel
theorem dX8_act_65 : decode cX8_act 65 = .ok (.aload_n 0, 1) := by decide +kernel
theorem dX8_act_66 : decode cX8_act 66 = .ok (.getfield 26, 3) := by decide +kernel
theorem dX8_act_69 : decode cX8_act 69 = .ok (.imul, 1) := by decide +kernel
theorem dX8_act_70 : decode cX8_act 70 = .ok (.iload_n 1, 1) := by decide +kernel
theorem dX8_act_71 : decode cX8_act 71 = .ok (.iadd, 1) := by decide +kernel
theorem dX8_act_72 : decode cX8_act 72 = .ok (.aload_n 0, 1) := by decide +kernel
theorem dX8_act_73 : decode cX8_act 73 = .ok (.getfield 7, 3) := by decide +kernel
theorem dX8_act_76 : decode cX8_act 76 = .ok (.iload_n 1, 1) := by decide +kernel
theorem dX8_act_77 : decode cX8_act 77 = .ok (.iaload, 1) := by decide +kernel
theorem dX8_act_78 : decode cX8_act 78 = .ok (.iastore, 1) := by decide +kernel
theorem dX8_act_79 : decode cX8_act 79 = .ok (.iinc 1 1, 3) := by decide +kernel
theorem dX8_act_82 : decode cX8_act 82 = .ok (.goto (-31), 3) := by decide +kernel
theorem dX8_act_85 : decode cX8_act 85 = .ok (.aload_n 0, 1) := by decide +kernel
theorem dX8_act_86 : decode cX8_act 86 = .ok (.dup, 1) := by decide +kernel
theorem dX8_act_87 : decode cX8_act 87 = .ok (.getfield 26, 3) := by decide +kernel
theorem dX8_act_90 : decode cX8_act 90 = .ok (.iconst 1, 1) := by decide +kernel
theorem dX8_act_91 : decode cX8_act 91 = .ok (.iadd, 1) := by decide +kernel
theorem dX8_act_92 : decode cX8_act 92 = .ok (.putfield 26, 3) := by decide +kernel
theorem dX8_act_95 : decode cX8_act 95 = .ok (.return_, 1) := by decide +kernel
set_option maxRecDepth 20000 in
theorem ggX8_put_X8_act : GoodIn wsX8_put wsX8_act := goodIn_r _ [6, 7, 8, 1, 9, 10, 11, 12, 13, 14, 15, 16, 17, 18, 19, 20] (by decide +kernel) (by decide +kernel)
set_option maxRecDepth 20000 in
theorem gX8_put_X8_act : GoodIn wsX8_put (wsV RX8 29 RX8 yX8_act wsX8_act) := goodIn_app (goodIn_of _ (by decide +kernel)) ggX8_put_X8_act
theorem dX8_put_0 : decode cX8_put 0 = .ok (.aload_n 0, 1) := by decide +kernel
theorem dX8_put_1 : decode cX8_put 1 = .ok (.invokevirtual 29, 3) := by decide +kernel
theorem dX8_put_4 : decode cX8_put 4 = .ok (.aload_n 0, 1) := by decide +kernel
theorem dX8_put_5 : decode cX8_put 5 = .ok (.getfield 7, 3) := by decide +kernel
theorem dX8_put_8 : decode cX8_put 8 = .ok (.iload_n 1, 1) := by decide +kernel
theorem dX8_put_9 : decode cX8_put 9 = .ok (.iaload, 1) := by decide +kernel
theorem dX8_put_10 : decode cX8_put 10 = .ok (.istore_n 3, 1) := by decide +kernel
theorem dX8_put_11 : decode cX8_put 11 = .ok (.aload_n 0, 1) := by decide +kernel
theorem dX8_put_12 : decode cX8_put 12 = .ok (.getfield 7, 3) := by decide +kernel
theorem dX8_put_15 : decode cX8_put 15 = .ok (.iload_n 1, 1) := by decide +kernel
theorem dX8_put_16 : decode cX8_put 16 = .ok (.iload_n 2, 1) := by decide +kernel
theorem dX8_put_17 : decode cX8_put 17 = .ok (.iastore, 1) := by decide +kernel
theorem dX8_put_18 : decode cX8_put 18 = .ok (.iload_n 3, 1) := by decide +kernel
theorem dX8_put_19 : decode cX8_put 19 = .ok (.ireturn, 1) := by decide +kernel
set_option maxRecDepth 20000 in
theorem ggX8_isCostume_X8_in : GoodIn wsX8_isCostume wsX8_in := goodIn_r _ [5] (by decide +kernel) (by decide +kernel)
set_option maxRecDepth 20000 in
theorem gX8_isCostume_X8_in : GoodIn wsX8_isCostume (va_wsS RX8 32 yX8_in wsX8_in) := goodIn_app (goodIn_of _ (by decide +kernel)) ggX8_isCostume_X8_in
theorem dX8_isCostume_0 : decode cX8_isCostume 0 = .ok (.iload_n 1, 1) := by decide +kernel
theorem dX8_isCostume_1 : decode cX8_isCostume 1 = .ok (.i2l, 1) := by decide +kernel
theorem dX8_isCostume_2 : decode cX8_isCostume 2 = .ok (.lconst 0, 1) := by decide +kernel
theorem dX8_isCostume_3 : decode cX8_isCostume 3 = .ok (.aload_n 0, 1) := by decide +kernel
theorem dX8_isCostume_4 : decode cX8_isCostume 4 = .ok (.getfield 7, 3) := by decide +kernel
theorem dX8_isCostume_7 : decode cX8_isCostume 7 = .ok (.iconst 0, 1) := by decide +kernel
theorem dX8_isCostume_8 : decode cX8_isCostume 8 = .ok (.iaload, 1) := by decide +kernel
theorem dX8_isCostume_9 : decode cX8_isCostume 9 = .ok (.iconst 1, 1) := by decide +kernel
theorem dX8_isCostume_10 : decode cX8_isCostume 10 = .ok (.isub, 1) := by decide +kernel
theorem dX8_isCostume_11 : decode cX8_isCostume 11 = .ok (.i2l, 1) := by decide +kernel
theorem dX8_isCostume_12 : decode cX8_isCostume 12 = .ok (.invokestatic 32, 3) := by decide +kernel
theorem dX8_isCostume_15 : decode cX8_isCostume 15 = .ok (.ireturn, 1) := by decide +kernel
set_option maxRecDepth 20000 in
theorem ggX8_isActor_X8_in : GoodIn wsX8_isActor wsX8_in := goodIn_r _ [5] (by decide +kernel) (by decide +kernel)
set_option maxRecDepth 20000 in
theorem gX8_isActor_X8_in : GoodIn wsX8_isActor (va_wsS RX8 32 yX8_in wsX8_in) := goodIn_app (goodIn_of _ (by decide +kernel)) ggX8_isActor_X8_in
theorem dX8_isActor_0 : decode cX8_isActor 0 = .ok (.iload_n 1, 1) := by decide +kernel
theorem dX8_isActor_1 : decode cX8_isActor 1 = .ok (.i2l, 1) := by decide +kernel
theorem dX8_isActor_2 : decode cX8_isActor 2 = .ok (.lconst 0, 1) := by decide +kernel
theorem dX8_isActor_3 : decode cX8_isActor 3 = .ok (.aload_n 0, 1) := by decide +kernel
theorem dX8_isActor_4 : decode cX8_isActor 4 = .ok (.getfield 7, 3) := by decide +kernel
theorem dX8_isActor_7 : decode cX8_isActor 7 = .ok (.iconst 1, 1) := by decide +kernel
theorem dX8_isActor_8 : decode cX8_isActor 8 = .ok (.iaload, 1) := by decide +kernel
theorem dX8_isActor_9 : decode cX8_isActor 9 = .ok (.iconst 1, 1) := by decide +kernel
theorem dX8_isActor_10 : decode cX8_isActor 10 = .ok (.isub, 1) := by decide +kernel
theorem dX8_isActor_11 : decode cX8_isActor 11 = .ok (.i2l, 1) := by decide +kernel
theorem dX8_isActor_12 : decode cX8_isActor 12 = .ok (.invokestatic 32, 3) := by decide +kernel
theorem dX8_isActor_15 : decode cX8_isActor 15 = .ok (.ireturn, 1) := by decide +kernel
set_option maxRecDepth 20000 in
theorem ggX8_isScene_X8_in : GoodIn wsX8_isScene wsX8_in := goodIn_r _ [5] (by decide +kernel) (by decide +kernel)
set_option maxRecDepth 20000 in
theorem gX8_isScene_X8_in : GoodIn wsX8_isScene (va_wsS RX8 32 yX8_in wsX8_in) := goodIn_app (goodIn_of _ (by decide +kernel)) ggX8_isScene_X8_in
theorem dX8_isScene_0 : decode cX8_isScene 0 = .ok (.iload_n 0, 1) := by decide +kernel
theorem dX8_isScene_1 : decode cX8_isScene 1 = .ok (.i2l, 1) := by decide +kernel
theorem dX8_isScene_2 : decode cX8_isScene 2 = .ok (.lconst 0, 1) := by decide +kernel
theorem dX8_isScene_3 : decode cX8_isScene 3 = .ok (.ldc2_w 36, 3) := by decide +kernel
theorem dX8_isScene_6 : decode cX8_isScene 6 = .ok (.invokestatic 32, 3) := by decide +kernel
theorem dX8_isScene_9 : decode cX8_isScene 9 = .ok (.ireturn, 1) := by decide +kernel
set_option maxRecDepth 20000 in
theorem ggX8_isMeasure_X8_in : GoodIn wsX8_isMeasure wsX8_in := goodIn_r _ [6] (by decide +kernel) (by decide +kernel)
set_option maxRecDepth 20000 in
theorem gX8_isMeasure_X8_in : GoodIn wsX8_isMeasure (va_wsS RX8 32 yX8_in wsX8_in) := goodIn_app (goodIn_of _ (by decide +kernel)) ggX8_isMeasure_X8_in
theorem dX8_isMeasure_0 : decode cX8_isMeasure 0 = .ok (.iload_n 0, 1) := by decide +kernel
theorem dX8_isMeasure_1 : decode cX8_isMeasure 1 = .ok (.i2l, 1) := by decide +kernel
theorem dX8_isMeasure_2 : decode cX8_isMeasure 2 = .ok (.ldc2_w 38, 3) := by decide +kernel
theorem dX8_isMeasure_5 : decode cX8_isMeasure 5 = .ok (.ldc2_w 40, 3) := by decide +kernel
theorem dX8_isMeasure_8 : decode cX8_isMeasure 8 = .ok (.invokestatic 32, 3) := by decide +kernel
theorem dX8_isMeasure_11 : decode cX8_isMeasure 11 = .ok (.ireturn, 1) := by decide +kernel
theorem dX8_of_0 : decode cX8_of 0 = .ok (.aload_n 0, 1) := by decide +kernel
theorem dX8_of_1 : decode cX8_of 1 = .ok (.getfield 7, 3) := by decide +kernel
theorem dX8_of_4 : decode cX8_of 4 = .ok (.bipush 12, 2) := by decide +kernel
theorem dX8_of_6 : decode cX8_of 6 = .ok (.bipush 20, 2) := by decide +kernel
theorem dX8_of_8 : decode cX8_of 8 = .ok (.iload_n 1, 1) := by decide +kernel
theorem dX8_of_9 : decode cX8_of 9 = .ok (.imul, 1) := by decide +kernel
theorem dX8_of_10 : decode cX8_of 10 = .ok (.iadd, 1) := by decide +kernel
theorem dX8_of_11 : decode cX8_of 11 = .ok (.iload_n 2, 1) := by decide +kernel
theorem dX8_of_12 : decode cX8_of 12 = .ok (.iadd, 1) := by decide +kernel
theorem dX8_of_13 : decode cX8_of 13 = .ok (.iaload, 1) := by decide +kernel
theorem dX8_of_14 : decode cX8_of 14 = .ok (.ireturn, 1) := by decide +kernel
theorem dX8_lay_0 : decode cX8_lay 0 = .ok (.aload_n 0, 1) := by decide +kernel
theorem dX8_lay_1 : decode cX8_lay 1 = .ok (.getfield 7, 3) := by decide +kernel
theorem dX8_lay_4 : decode cX8_lay 4 = .ok (.bipush 12, 2) := by decide +kernel
theorem dX8_lay_6 : decode cX8_lay 6 = .ok (.bipush 20, 2) := by decide +kernel
theorem dX8_lay_8 : decode cX8_lay 8 = .ok (.iload_n 1, 1) := by decide +kernel
theorem dX8_lay_9 : decode cX8_lay 9 = .ok (.imul, 1) := by decide +kernel
theorem dX8_lay_10 : decode cX8_lay 10 = .ok (.iadd, 1) := by decide +kernel
theorem dX8_lay_11 : decode cX8_lay 11 = .ok (.iload_n 2, 1) := by decide +kernel
theorem dX8_lay_12 : decode cX8_lay 12 = .ok (.iadd, 1) := by decide +kernel
theorem dX8_lay_13 : decode cX8_lay 13 = .ok (.iload_n 3, 1) := by decide +kernel
theorem dX8_lay_14 : decode cX8_lay 14 = .ok (.iastore, 1) := by decide +kernel
theorem dX8_lay_15 : decode cX8_lay 15 = .ok (.return_, 1) := by decide +kernel
theorem dX8_measureOf_0 : decode cX8_measureOf 0 = .ok (.aload_n 0, 1) := by decide +kernel
theorem dX8_measureOf_1 : decode cX8_measureOf 1 = .ok (.getfield 7, 3) := by decide +kernel
theorem dX8_measureOf_4 : decode cX8_measureOf 4 = .ok (.sipush 332, 3) := by decide +kernel
theorem dX8_measureOf_7 : decode cX8_measureOf 7 = .ok (.iconst 3, 1) := by decide +kernel
theorem dX8_measureOf_8 : decode cX8_measureOf 8 = .ok (.iload_n 1, 1) := by decide +kernel
theorem dX8_measureOf_9 : decode cX8_measureOf 9 = .ok (.imul, 1) := by decide +kernel
theorem dX8_measureOf_10 : decode cX8_measureOf 10 = .ok (.iadd, 1) := by decide +kernel
theorem dX8_measureOf_11 : decode cX8_measureOf 11 = .ok (.iload_n 2, 1) := by decide +kernel
theorem dX8_measureOf_12 : decode cX8_measureOf 12 = .ok (.iadd, 1) := by decide +kernel
theorem dX8_measureOf_13 : decode cX8_measureOf 13 = .ok (.iaload, 1) := by decide +kernel
theorem dX8_measureOf_14 : decode cX8_measureOf 14 = .ok (.ireturn, 1) := by decide +kernel
theorem dX8_worn_0 : decode cX8_worn 0 = .ok (.aload_n 0, 1) := by decide +kernel
theorem dX8_worn_1 : decode cX8_worn 1 = .ok (.getfield 7, 3) := by decide +kernel
theorem dX8_worn_4 : decode cX8_worn 4 = .ok (.sipush 356, 3) := by decide +kernel
theorem dX8_worn_7 : decode cX8_worn 7 = .ok (.bipush 8, 2) := by decide +kernel
theorem dX8_worn_9 : decode cX8_worn 9 = .ok (.iload_n 1, 1) := by decide +kernel
theorem dX8_worn_10 : decode cX8_worn 10 = .ok (.imul, 1) := by decide +kernel
theorem dX8_worn_11 : decode cX8_worn 11 = .ok (.iadd, 1) := by decide +kernel
theorem dX8_worn_12 : decode cX8_worn 12 = .ok (.iload_n 2, 1) := by decide +kernel
theorem dX8_worn_13 : decode cX8_worn 13 = .ok (.iadd, 1) := by decide +kernel
theorem dX8_worn_14 : decode cX8_worn 14 = .ok (.iaload, 1) := by decide +kernel
theorem dX8_worn_15 : decode cX8_worn 15 = .ok (.ireturn, 1) := by decide +kernel
theorem dX8_ofHire_0 : decode cX8_ofHire 0 = .ok (.aload_n 0, 1) := by decide +kernel
theorem dX8_ofHire_1 : decode cX8_ofHire 1 = .ok (.getfield 7, 3) := by decide +kernel
theorem dX8_ofHire_4 : decode cX8_ofHire 4 = .ok (.sipush 452, 3) := by decide +kernel
theorem dX8_ofHire_7 : decode cX8_ofHire 7 = .ok (.iconst 5, 1) := by decide +kernel
theorem dX8_ofHire_8 : decode cX8_ofHire 8 = .ok (.iload_n 1, 1) := by decide +kernel
theorem dX8_ofHire_9 : decode cX8_ofHire 9 = .ok (.imul, 1) := by decide +kernel
theorem dX8_ofHire_10 : decode cX8_ofHire 10 = .ok (.iadd, 1) := by decide +kernel
theorem dX8_ofHire_11 : decode cX8_ofHire 11 = .ok (.iload_n 2, 1) := by decide +kernel
theorem dX8_ofHire_12 : decode cX8_ofHire 12 = .ok (.iadd, 1) := by decide +kernel
theorem dX8_ofHire_13 : decode cX8_ofHire 13 = .ok (.iaload, 1) := by decide +kernel
theorem dX8_ofHire_14 : decode cX8_ofHire 14 = .ok (.ireturn, 1) := by decide +kernel
set_option maxRecDepth 20000 in
theorem ggX8_makeCostume_X8_lay : GoodIn wsX8_makeCostume wsX8_lay := goodIn_r _ [6, 1, 7, 8, 9, 10, 11, 12, 13, 14, 15, 16, 17, 18] (by decide +kernel) (by decide +kernel)
set_option maxRecDepth 20000 in
theorem gX8_makeCostume_X8_lay : GoodIn wsX8_makeCostume (wsV RX8 42 RX8 yX8_lay wsX8_lay) := goodIn_app (goodIn_of _ (by decide +kernel)) ggX8_makeCostume_X8_lay
theorem dX8_makeCostume_0 : decode cX8_makeCostume 0 = .ok (.aload_n 0, 1) := by decide +kernel
theorem dX8_makeCostume_1 : decode cX8_makeCostume 1 = .ok (.getfield 7, 3) := by decide +kernel
theorem dX8_makeCostume_4 : decode cX8_makeCostume 4 = .ok (.iconst 0, 1) := by decide +kernel
theorem dX8_makeCostume_5 : decode cX8_makeCostume 5 = .ok (.iaload, 1) := by decide +kernel
theorem dX8_makeCostume_6 : decode cX8_makeCostume 6 = .ok (.istore 7, 2) := by decide +kernel
theorem dX8_makeCostume_8 : decode cX8_makeCostume 8 = .ok (.aload_n 0, 1) := by decide +kernel
theorem dX8_makeCostume_9 : decode cX8_makeCostume 9 = .ok (.getfield 7, 3) := by decide +kernel
theorem dX8_makeCostume_12 : decode cX8_makeCostume 12 = .ok (.iconst 0, 1) := by decide +kernel
theorem dX8_makeCostume_13 : decode cX8_makeCostume 13 = .ok (.dup2, 1) := by decide +kernel
theorem dX8_makeCostume_14 : decode cX8_makeCostume 14 = .ok (.iaload, 1) := by decide +kernel
theorem dX8_makeCostume_15 : decode cX8_makeCostume 15 = .ok (.iconst 1, 1) := by decide +kernel
theorem dX8_makeCostume_16 : decode cX8_makeCostume 16 = .ok (.iadd, 1) := by decide +kernel
theorem dX8_makeCostume_17 : decode cX8_makeCostume 17 = .ok (.iastore, 1) := by decide +kernel
theorem dX8_makeCostume_18 : decode cX8_makeCostume 18 = .ok (.iconst 0, 1) := by decide +kernel
theorem dX8_makeCostume_19 : decode cX8_makeCostume 19 = .ok (.istore 8, 2) := by decide +kernel
theorem dX8_makeCostume_21 : decode cX8_makeCostume 21 = .ok (.iload 8, 2) := by decide +kernel
theorem dX8_makeCostume_23 : decode cX8_makeCostume 23 = .ok (.bipush 20, 2) := by decide +kernel
theorem dX8_makeCostume_25 : decode cX8_makeCostume 25 = .ok (.if_icmp .ge 18, 3) := by decide +kernel
theorem dX8_makeCostume_28 : decode cX8_makeCostume 28 = .ok (.aload_n 0, 1) := by decide +kernel
theorem dX8_makeCostume_29 : decode cX8_makeCostume 29 = .ok (.iload 7, 2) := by decide +kernel
theorem dX8_makeCostume_31 : decode cX8_makeCostume 31 = .ok (.iload 8, 2) := by decide +kernel
theorem dX8_makeCostume_33 : decode cX8_makeCostume 33 = .ok (.iconst 0, 1) := by decide +kernel
theorem dX8_makeCostume_34 : decode cX8_makeCostume 34 = .ok (.invokevirtual 42, 3) := by decide +kernel
theorem dX8_makeCostume_37 : decode cX8_makeCostume 37 = .ok (.iinc 8 1, 3) := by decide +kernel
theorem dX8_makeCostume_40 : decode cX8_makeCostume 40 = .ok (.goto (-19), 3) := by decide +kernel
theorem dX8_makeCostume_43 : decode cX8_makeCostume 43 = .ok (.aload_n 0, 1) := by decide +kernel
theorem dX8_makeCostume_44 : decode cX8_makeCostume 44 = .ok (.iload 7, 2) := by decide +kernel
theorem dX8_makeCostume_46 : decode cX8_makeCostume 46 = .ok (.iconst 0, 1) := by decide +kernel
theorem dX8_makeCostume_47 : decode cX8_makeCostume 47 = .ok (.iload_n 1, 1) := by decide +kernel
theorem dX8_makeCostume_48 : decode cX8_makeCostume 48 = .ok (.invokevirtual 42, 3) := by decide +kernel
theorem dX8_makeCostume_51 : decode cX8_makeCostume 51 = .ok (.aload_n 0, 1) := by decide +kernel
theorem dX8_makeCostume_52 : decode cX8_makeCostume 52 = .ok (.iload 7, 2) := by decide +kernel
theorem dX8_makeCostume_54 : decode cX8_makeCostume 54 = .ok (.iconst 1, 1) := by decide +kernel
theorem dX8_makeCostume_55 : decode cX8_makeCostume 55 = .ok (.iload_n 2, 1) := by decide +kernel
theorem dX8_makeCostume_56 : decode cX8_makeCostume 56 = .ok (.invokevirtual 42, 3) := by decide +kernel
theorem dX8_makeCostume_59 : decode cX8_makeCostume 59 = .ok (.aload_n 0, 1) := by decide +kernel
theorem dX8_makeCostume_60 : decode cX8_makeCostume 60 = .ok (.iload 7, 2) := by decide +kernel
theorem dX8_makeCostume_62 : decode cX8_makeCostume 62 = .ok (.iconst 2, 1) := by decide +kernel
theorem dX8_makeCostume_63 : decode cX8_makeCostume 63 = .ok (.iload_n 3, 1) := by decide +kernel
theorem dX8_makeCostume_64 : decode cX8_makeCostume 64 = .ok (.invokevirtual 42, 3) := by decide +kernel
theorem dX8_makeCostume_67 : decode cX8_makeCostume 67 = .ok (.aload_n 0, 1) := by decide +kernel
theorem dX8_makeCostume_68 : decode cX8_makeCostume 68 = .ok (.iload 7, 2) := by decide +kernel
theorem dX8_makeCostume_70 : decode cX8_makeCostume 70 = .ok (.iconst 3, 1) := by decide +kernel
theorem dX8_makeCostume_71 : decode cX8_makeCostume 71 = .ok (.iload 4, 2) := by decide +kernel
theorem dX8_makeCostume_73 : decode cX8_makeCostume 73 = .ok (.invokevirtual 42, 3) := by decide +kernel
theorem dX8_makeCostume_76 : decode cX8_makeCostume 76 = .ok (.aload_n 0, 1) := by decide +kernel
theorem dX8_makeCostume_77 : decode cX8_makeCostume 77 = .ok (.iload 7, 2) := by decide +kernel
theorem dX8_makeCostume_79 : decode cX8_makeCostume 79 = .ok (.iconst 4, 1) := by decide +kernel
theorem dX8_makeCostume_80 : decode cX8_makeCostume 80 = .ok (.iload 5, 2) := by decide +kernel
theorem dX8_makeCostume_82 : decode cX8_makeCostume 82 = .ok (.invokevirtual 42, 3) := by decide +kernel
theorem dX8_makeCostume_85 : decode cX8_makeCostume 85 = .ok (.aload_n 0, 1) := by decide +kernel
theorem dX8_makeCostume_86 : decode cX8_makeCostume 86 = .ok (.iload 7, 2) := by decide +kernel
theorem dX8_makeCostume_88 : decode cX8_makeCostume 88 = .ok (.iconst 5, 1) := by decide +kernel
theorem dX8_makeCostume_89 : decode cX8_makeCostume 89 = .ok (.iload 6, 2) := by decide +kernel
theorem dX8_makeCostume_91 : decode cX8_makeCostume 91 = .ok (.invokevirtual 42, 3) := by decide +kernel
theorem dX8_makeCostume_94 : decode cX8_makeCostume 94 = .ok (.iload 7, 2) := by decide +kernel
theorem dX8_makeCostume_96 : decode cX8_makeCostume 96 = .ok (.ireturn, 1) := by decide +kernel
theorem dX8_makeActor_0 : decode cX8_makeActor 0 = .ok (.aload_n 0, 1) := by decide +kernel
theorem dX8_makeActor_1 : decode cX8_makeActor 1 = .ok (.getfield 7, 3) := by decide +kernel
theorem dX8_makeActor_4 : decode cX8_makeActor 4 = .ok (.iconst 1, 1) := by decide +kernel
theorem dX8_makeActor_5 : decode cX8_makeActor 5 = .ok (.iaload, 1) := by decide +kernel
theorem dX8_makeActor_6 : decode cX8_makeActor 6 = .ok (.istore 4, 2) := by decide +kernel
theorem dX8_makeActor_8 : decode cX8_makeActor 8 = .ok (.aload_n 0, 1) := by decide +kernel
theorem dX8_makeActor_9 : decode cX8_makeActor 9 = .ok (.getfield 7, 3) := by decide +kernel
theorem dX8_makeActor_12 : decode cX8_makeActor 12 = .ok (.iconst 1, 1) := by decide +kernel
theorem dX8_makeActor_13 : decode cX8_makeActor 13 = .ok (.dup2, 1) := by decide +kernel
theorem dX8_makeActor_14 : decode cX8_makeActor 14 = .ok (.iaload, 1) := by decide +kernel
theorem dX8_makeActor_15 : decode cX8_makeActor 15 = .ok (.iconst 1, 1) := by decide +kernel
theorem dX8_makeActor_16 : decode cX8_makeActor 16 = .ok (.iadd, 1) := by decide +kernel
theorem dX8_makeActor_17 : decode cX8_makeActor 17 = .ok (.iastore, 1) := by decide +kernel
theorem dX8_makeActor_18 : decode cX8_makeActor 18 = .ok (.aload_n 0, 1) := by decide +kernel
theorem dX8_makeActor_19 : decode cX8_makeActor 19 = .ok (.getfield 7, 3) := by decide +kernel
theorem dX8_makeActor_22 : decode cX8_makeActor 22 = .ok (.sipush 332, 3) := by decide +kernel
theorem dX8_makeActor_25 : decode cX8_makeActor 25 = .ok (.iconst 3, 1) := by decide +kernel
theorem dX8_makeActor_26 : decode cX8_makeActor 26 = .ok (.iload 4, 2) := by decide +kernel
theorem dX8_makeActor_28 : decode cX8_makeActor 28 = .ok (.imul, 1) := by decide +kernel
theorem dX8_makeActor_29 : decode cX8_makeActor 29 = .ok (.iadd, 1) := by decide +kernel
theorem dX8_makeActor_30 : decode cX8_makeActor 30 = .ok (.iload_n 1, 1) := by decide +kernel
theorem dX8_makeActor_31 : decode cX8_makeActor 31 = .ok (.iastore, 1) := by decide +kernel
theorem dX8_makeActor_32 : decode cX8_makeActor 32 = .ok (.aload_n 0, 1) := by decide +kernel
theorem dX8_makeActor_33 : decode cX8_makeActor 33 = .ok (.getfield 7, 3) := by decide +kernel
theorem dX8_makeActor_36 : decode cX8_makeActor 36 = .ok (.sipush 332, 3) := by decide +kernel
theorem dX8_makeActor_39 : decode cX8_makeActor 39 = .ok (.iconst 3, 1) := by decide +kernel
theorem dX8_makeActor_40 : decode cX8_makeActor 40 = .ok (.iload 4, 2) := by decide +kernel
theorem dX8_makeActor_42 : decode cX8_makeActor 42 = .ok (.imul, 1) := by decide +kernel
theorem dX8_makeActor_43 : decode cX8_makeActor 43 = .ok (.iadd, 1) := by decide +kernel
theorem dX8_makeActor_44 : decode cX8_makeActor 44 = .ok (.iconst 1, 1) := by decide +kernel
theorem dX8_makeActor_45 : decode cX8_makeActor 45 = .ok (.iadd, 1) := by decide +kernel
theorem dX8_makeActor_46 : decode cX8_makeActor 46 = .ok (.iload_n 2, 1) := by decide +kernel
theorem dX8_makeActor_47 : decode cX8_makeActor 47 = .ok (.iastore, 1) := by decide +kernel
theorem dX8_makeActor_48 : decode cX8_makeActor 48 = .ok (.aload_n 0, 1) := by decide +kernel
theorem dX8_makeActor_49 : decode cX8_makeActor 49 = .ok (.getfield 7, 3) := by decide +kernel
theorem dX8_makeActor_52 : decode cX8_makeActor 52 = .ok (.sipush 332, 3) := by decide +kernel
theorem dX8_makeActor_55 : decode cX8_makeActor 55 = .ok (.iconst 3, 1) := by decide +kernel
theorem dX8_makeActor_56 : decode cX8_makeActor 56 = .ok (.iload 4, 2) := by decide +kernel
theorem dX8_makeActor_58 : decode cX8_makeActor 58 = .ok (.imul, 1) := by decide +kernel
theorem dX8_makeActor_59 : decode cX8_makeActor 59 = .ok (.iadd, 1) := by decide +kernel
theorem dX8_makeActor_60 : decode cX8_makeActor 60 = .ok (.iconst 2, 1) := by decide +kernel
theorem dX8_makeActor_61 : decode cX8_makeActor 61 = .ok (.iadd, 1) := by decide +kernel
theorem dX8_makeActor_62 : decode cX8_makeActor 62 = .ok (.iload_n 3, 1) := by decide +kernel
theorem dX8_makeActor_63 : decode cX8_makeActor 63 = .ok (.iastore, 1) := by decide +kernel
theorem dX8_makeActor_64 : decode cX8_makeActor 64 = .ok (.iconst 0, 1) := by decide +kernel
theorem dX8_makeActor_65 : decode cX8_makeActor 65 = .ok (.istore 5, 2) := by decide +kernel
theorem dX8_makeActor_67 : decode cX8_makeActor 67 = .ok (.iload 5, 2) := by decide +kernel
theorem dX8_makeActor_69 : decode cX8_makeActor 69 = .ok (.bipush 12, 2) := by decide +kernel
theorem dX8_makeActor_71 : decode cX8_makeActor 71 = .ok (.if_icmp .ge 27, 3) := by decide +kernel
theorem dX8_makeActor_74 : decode cX8_makeActor 74 = .ok (.aload_n 0, 1) := by decide +kernel
theorem dX8_makeActor_75 : decode cX8_makeActor 75 = .ok (.getfield 7, 3) := by decide +kernel
theorem dX8_makeActor_78 : decode cX8_makeActor 78 = .ok (.sipush 356, 3) := by decide +kernel
theorem dX8_makeActor_81 : decode cX8_makeActor 81 = .ok (.bipush 8, 2) := by decide +kernel
theorem dX8_makeActor_83 : decode cX8_makeActor 83 = .ok (.iload 5, 2) := by decide +kernel
theorem dX8_makeActor_85 : decode cX8_makeActor 85 = .ok (.imul, 1) := by decide +kernel
theorem dX8_makeActor_86 : decode cX8_makeActor 86 = .ok (.iadd, 1) := by decide +kernel
theorem dX8_makeActor_87 : decode cX8_makeActor 87 = .ok (.iload 4, 2) := by decide +kernel
theorem dX8_makeActor_89 : decode cX8_makeActor 89 = .ok (.iadd, 1) := by decide +kernel
theorem dX8_makeActor_90 : decode cX8_makeActor 90 = .ok (.iconst (-1), 1) := by decide +kernel
theorem dX8_makeActor_91 : decode cX8_makeActor 91 = .ok (.iastore, 1) := by decide +kernel
theorem dX8_makeActor_92 : decode cX8_makeActor 92 = .ok (.iinc 5 1, 3) := by decide +kernel
theorem dX8_makeActor_95 : decode cX8_makeActor 95 = .ok (.goto (-28), 3) := by decide +kernel
theorem dX8_makeActor_98 : decode cX8_makeActor 98 = .ok (.iload 4, 2) := by decide +kernel
theorem dX8_makeActor_100 : decode cX8_makeActor 100 = .ok (.ireturn, 1) := by decide +kernel
set_option maxRecDepth 20000 in
theorem ggX8_addCostume_X8_isMeasure : GoodIn wsX8_addCostume wsX8_isMeasure := goodIn_r _ [8, 9, 10, 11, 12, 7, 13] (by decide +kernel) (by decide +kernel)
set_option maxRecDepth 20000 in
theorem gX8_addCostume_X8_isMeasure : GoodIn wsX8_addCostume (va_wsS RX8 46 yX8_isMeasure wsX8_isMeasure) := goodIn_app (goodIn_of _ (by decide +kernel)) ggX8_addCostume_X8_isMeasure
set_option maxRecDepth 20000 in
theorem ggX8_addCostume_X8_in : GoodIn wsX8_addCostume wsX8_in := goodIn_r _ [13] (by decide +kernel) (by decide +kernel)
set_option maxRecDepth 20000 in
theorem gX8_addCostume_X8_in : GoodIn wsX8_addCostume (va_wsS RX8 32 yX8_in wsX8_in) := goodIn_app (goodIn_of _ (by decide +kernel)) ggX8_addCostume_X8_in
set_option maxRecDepth 20000 in
theorem ggX8_addCostume_X8_act : GoodIn wsX8_addCostume wsX8_act := goodIn_r _ [17, 18, 19, 4, 28, 29, 30, 31, 32, 33, 34, 35, 36, 37, 38, 39] (by decide +kernel) (by decide +kernel)
set_option maxRecDepth 20000 in
theorem gX8_addCostume_X8_act : GoodIn wsX8_addCostume (wsV RX8 29 RX8 yX8_act wsX8_act) := goodIn_app (goodIn_of _ (by decide +kernel)) ggX8_addCostume_X8_act
set_option maxRecDepth 20000 in
theorem ggX8_addCostume_X8_makeCostume : GoodIn wsX8_addCostume wsX8_makeCostume := goodIn_r _ [23, 4, 24, 25, 26, 7, 27, 28, 29, 30, 31, 32, 33, 34, 35, 36, 37, 38, 39] (by decide +kernel) (by decide +kernel)
set_option maxRecDepth 20000 in
theorem gX8_addCostume_X8_makeCostume : GoodIn wsX8_addCostume (wsV RX8 54 RX8 yX8_makeCostume wsX8_makeCostume) := goodIn_app (goodIn_of _ (by decide +kernel)) ggX8_addCostume_X8_makeCostume
theorem dX8_addCostume_0 : decode cX8_addCostume 0 = .ok (.aload_n 0, 1) := by decide +kernel
theorem dX8_addCostume_1 : decode cX8_addCostume 1 = .ok (.iconst 0, 1) := by decide +kernel
theorem dX8_addCostume_2 : decode cX8_addCostume 2 = .ok (.putfield 22, 3) := by decide +kernel
theorem dX8_addCostume_5 : decode cX8_addCostume 5 = .ok (.iload_n 1, 1) := by decide +kernel
theorem dX8_addCostume_6 : decode cX8_addCostume 6 = .ok (.invokestatic 46, 3) := by decide +kernel
theorem dX8_addCostume_9 : decode cX8_addCostume 9 = .ok (.ifCond .eq 43, 3) := by decide +kernel
theorem dX8_addCostume_12 : decode cX8_addCostume 12 = .ok (.iload_n 2, 1) := by decide +kernel
theorem dX8_addCostume_13 : decode cX8_addCostume 13 = .ok (.invokestatic 46, 3) := by decide +kernel
theorem dX8_addCostume_16 : decode cX8_addCostume 16 = .ok (.ifCond .eq 36, 3) := by decide +kernel
theorem dX8_addCostume_19 : decode cX8_addCostume 19 = .ok (.iload_n 3, 1) := by decide +kernel
theorem dX8_addCostume_20 : decode cX8_addCostume 20 = .ok (.invokestatic 46, 3) := by decide +kernel
theorem dX8_addCostume_23 : decode cX8_addCostume 23 = .ok (.ifCond .eq 29, 3) := by decide +kernel
theorem dX8_addCostume_26 : decode cX8_addCostume 26 = .ok (.iload 4, 2) := by decide +kernel
theorem dX8_addCostume_28 : decode cX8_addCostume 28 = .ok (.i2l, 1) := by decide +kernel
theorem dX8_addCostume_29 : decode cX8_addCostume 29 = .ok (.lconst 0, 1) := by decide +kernel
theorem dX8_addCostume_30 : decode cX8_addCostume 30 = .ok (.ldc2_w 50, 3) := by decide +kernel
theorem dX8_addCostume_33 : decode cX8_addCostume 33 = .ok (.invokestatic 32, 3) := by decide +kernel
theorem dX8_addCostume_36 : decode cX8_addCostume 36 = .ok (.ifCond .eq 16, 3) := by decide +kernel
theorem dX8_addCostume_39 : decode cX8_addCostume 39 = .ok (.iload 5, 2) := by decide +kernel
theorem dX8_addCostume_41 : decode cX8_addCostume 41 = .ok (.i2l, 1) := by decide +kernel
theorem dX8_addCostume_42 : decode cX8_addCostume 42 = .ok (.lconst 0, 1) := by decide +kernel
theorem dX8_addCostume_43 : decode cX8_addCostume 43 = .ok (.ldc2_w 52, 3) := by decide +kernel
theorem dX8_addCostume_46 : decode cX8_addCostume 46 = .ok (.invokestatic 32, 3) := by decide +kernel
theorem dX8_addCostume_49 : decode cX8_addCostume 49 = .ok (.ifCond .ne 7, 3) := by decide +kernel
theorem dX8_addCostume_52 : decode cX8_addCostume 52 = .ok (.sipush (-2001), 3) := by decide +kernel
theorem dX8_addCostume_55 : decode cX8_addCostume 55 = .ok (.ireturn, 1) := by decide +kernel
theorem dX8_addCostume_56 : decode cX8_addCostume 56 = .ok (.aload_n 0, 1) := by decide +kernel
theorem dX8_addCostume_57 : decode cX8_addCostume 57 = .ok (.getfield 7, 3) := by decide +kernel
theorem dX8_addCostume_60 : decode cX8_addCostume 60 = .ok (.iconst 0, 1) := by decide +kernel
theorem dX8_addCostume_61 : decode cX8_addCostume 61 = .ok (.iaload, 1) := by decide +kernel
theorem dX8_addCostume_62 : decode cX8_addCostume 62 = .ok (.bipush 16, 2) := by decide +kernel
theorem dX8_addCostume_64 : decode cX8_addCostume 64 = .ok (.if_icmp .ne 7, 3) := by decide +kernel
theorem dX8_addCostume_67 : decode cX8_addCostume 67 = .ok (.sipush (-2003), 3) := by decide +kernel
theorem dX8_addCostume_70 : decode cX8_addCostume 70 = .ok (.ireturn, 1) := by decide +kernel
theorem dX8_addCostume_71 : decode cX8_addCostume 71 = .ok (.aload_n 0, 1) := by decide +kernel
theorem dX8_addCostume_72 : decode cX8_addCostume 72 = .ok (.invokevirtual 29, 3) := by decide +kernel
theorem dX8_addCostume_75 : decode cX8_addCostume 75 = .ok (.aload_n 0, 1) := by decide +kernel
theorem dX8_addCostume_76 : decode cX8_addCostume 76 = .ok (.iload_n 1, 1) := by decide +kernel
theorem dX8_addCostume_77 : decode cX8_addCostume 77 = .ok (.iload_n 2, 1) := by decide +kernel
theorem dX8_addCostume_78 : decode cX8_addCostume 78 = .ok (.iload_n 3, 1) := by decide +kernel
theorem dX8_addCostume_79 : decode cX8_addCostume 79 = .ok (.iload 4, 2) := by decide +kernel
theorem dX8_addCostume_81 : decode cX8_addCostume 81 = .ok (.iload 5, 2) := by decide +kernel
theorem dX8_addCostume_83 : decode cX8_addCostume 83 = .ok (.iconst 0, 1) := by decide +kernel
theorem dX8_addCostume_84 : decode cX8_addCostume 84 = .ok (.invokevirtual 54, 3) := by decide +kernel
theorem dX8_addCostume_87 : decode cX8_addCostume 87 = .ok (.ireturn, 1) := by decide +kernel
set_option maxRecDepth 20000 in
theorem ggX8_setColor_X8_isCostume : GoodIn wsX8_setColor wsX8_isCostume := goodIn_r _ [6, 7, 8, 9, 5, 10, 21, 22, 23, 24, 25, 26, 27, 28, 29, 30, 31, 32] (by decide +kernel) (by decide +kernel)
set_option maxRecDepth 20000 in
theorem gX8_setColor_X8_isCostume : GoodIn wsX8_setColor (wsV RX8 58 RX8 yX8_isCostume wsX8_isCostume) := goodIn_app (goodIn_of _ (by decide +kernel)) ggX8_setColor_X8_isCostume
set_option maxRecDepth 20000 in
theorem ggX8_setColor_X8_in : GoodIn wsX8_setColor wsX8_in := goodIn_r _ [10] (by decide +kernel) (by decide +kernel)
set_option maxRecDepth 20000 in
theorem gX8_setColor_X8_in : GoodIn wsX8_setColor (va_wsS RX8 32 yX8_in wsX8_in) := goodIn_app (goodIn_of _ (by decide +kernel)) ggX8_setColor_X8_in
set_option maxRecDepth 20000 in
theorem ggX8_setColor_X8_put : GoodIn wsX8_setColor wsX8_put := goodIn_r _ [14, 7, 15, 16, 17, 5, 18, 19, 20, 21, 22, 23, 24, 25, 26, 27, 28, 29, 30, 31, 32] (by decide +kernel) (by decide +kernel)
set_option maxRecDepth 20000 in
theorem gX8_setColor_X8_put : GoodIn wsX8_setColor (wsV RX8 61 RX8 yX8_put wsX8_put) := goodIn_app (goodIn_of _ (by decide +kernel)) ggX8_setColor_X8_put
theorem dX8_setColor_0 : decode cX8_setColor 0 = .ok (.aload_n 0, 1) := by decide +kernel
theorem dX8_setColor_1 : decode cX8_setColor 1 = .ok (.iconst 0, 1) := by decide +kernel
theorem dX8_setColor_2 : decode cX8_setColor 2 = .ok (.putfield 22, 3) := by decide +kernel
theorem dX8_setColor_5 : decode cX8_setColor 5 = .ok (.aload_n 0, 1) := by decide +kernel
theorem dX8_setColor_6 : decode cX8_setColor 6 = .ok (.iload_n 1, 1) := by decide +kernel
theorem dX8_setColor_7 : decode cX8_setColor 7 = .ok (.invokevirtual 58, 3) := by decide +kernel
theorem dX8_setColor_10 : decode cX8_setColor 10 = .ok (.ifCond .eq 30, 3) := by decide +kernel
theorem dX8_setColor_13 : decode cX8_setColor 13 = .ok (.iload_n 2, 1) := by decide +kernel
theorem dX8_setColor_14 : decode cX8_setColor 14 = .ok (.i2l, 1) := by decide +kernel
theorem dX8_setColor_15 : decode cX8_setColor 15 = .ok (.lconst 0, 1) := by decide +kernel
theorem dX8_setColor_16 : decode cX8_setColor 16 = .ok (.lconst 1, 1) := by decide +kernel
theorem dX8_setColor_17 : decode cX8_setColor 17 = .ok (.invokestatic 32, 3) := by decide +kernel
theorem dX8_setColor_20 : decode cX8_setColor 20 = .ok (.ifCond .eq 20, 3) := by decide +kernel
theorem dX8_setColor_23 : decode cX8_setColor 23 = .ok (.aload_n 0, 1) := by decide +kernel
theorem dX8_setColor_24 : decode cX8_setColor 24 = .ok (.bipush 12, 2) := by decide +kernel
theorem dX8_setColor_26 : decode cX8_setColor 26 = .ok (.bipush 20, 2) := by decide +kernel
theorem dX8_setColor_28 : decode cX8_setColor 28 = .ok (.iload_n 1, 1) := by decide +kernel
theorem dX8_setColor_29 : decode cX8_setColor 29 = .ok (.imul, 1) := by decide +kernel
theorem dX8_setColor_30 : decode cX8_setColor 30 = .ok (.iadd, 1) := by decide +kernel
theorem dX8_setColor_31 : decode cX8_setColor 31 = .ok (.iconst 5, 1) := by decide +kernel
theorem dX8_setColor_32 : decode cX8_setColor 32 = .ok (.iadd, 1) := by decide +kernel
theorem dX8_setColor_33 : decode cX8_setColor 33 = .ok (.iload_n 2, 1) := by decide +kernel
theorem dX8_setColor_34 : decode cX8_setColor 34 = .ok (.invokevirtual 61, 3) := by decide +kernel
theorem dX8_setColor_37 : decode cX8_setColor 37 = .ok (.goto 6, 3) := by decide +kernel
theorem dX8_setColor_40 : decode cX8_setColor 40 = .ok (.sipush (-2001), 3) := by decide +kernel
theorem dX8_setColor_43 : decode cX8_setColor 43 = .ok (.ireturn, 1) := by decide +kernel
set_option maxRecDepth 20000 in
theorem ggX8_addActor_X8_isMeasure : GoodIn wsX8_addActor wsX8_isMeasure := goodIn_r _ [6, 7, 8, 9, 10, 5, 11] (by decide +kernel) (by decide +kernel)
set_option maxRecDepth 20000 in
theorem gX8_addActor_X8_isMeasure : GoodIn wsX8_addActor (va_wsS RX8 46 yX8_isMeasure wsX8_isMeasure) := goodIn_app (goodIn_of _ (by decide +kernel)) ggX8_addActor_X8_isMeasure
set_option maxRecDepth 20000 in
theorem ggX8_addActor_X8_act : GoodIn wsX8_addActor wsX8_act := goodIn_r _ [15, 16, 17, 2, 22, 23, 24, 25, 26, 27, 28, 29, 30, 31, 32, 33] (by decide +kernel) (by decide +kernel)
set_option maxRecDepth 20000 in
theorem gX8_addActor_X8_act : GoodIn wsX8_addActor (wsV RX8 29 RX8 yX8_act wsX8_act) := goodIn_app (goodIn_of _ (by decide +kernel)) ggX8_addActor_X8_act
set_option maxRecDepth 20000 in
theorem ggX8_addActor_X8_makeActor : GoodIn wsX8_addActor wsX8_makeActor := goodIn_r _ [21, 2, 22, 23, 24, 25, 26, 27, 28, 29, 30, 31, 32, 33] (by decide +kernel) (by decide +kernel)
set_option maxRecDepth 20000 in
theorem gX8_addActor_X8_makeActor : GoodIn wsX8_addActor (wsV RX8 65 RX8 yX8_makeActor wsX8_makeActor) := goodIn_app (goodIn_of _ (by decide +kernel)) ggX8_addActor_X8_makeActor
theorem dX8_addActor_0 : decode cX8_addActor 0 = .ok (.aload_n 0, 1) := by decide +kernel
theorem dX8_addActor_1 : decode cX8_addActor 1 = .ok (.iconst 0, 1) := by decide +kernel
theorem dX8_addActor_2 : decode cX8_addActor 2 = .ok (.putfield 22, 3) := by decide +kernel
theorem dX8_addActor_5 : decode cX8_addActor 5 = .ok (.iload_n 1, 1) := by decide +kernel
theorem dX8_addActor_6 : decode cX8_addActor 6 = .ok (.invokestatic 46, 3) := by decide +kernel
theorem dX8_addActor_9 : decode cX8_addActor 9 = .ok (.ifCond .eq 17, 3) := by decide +kernel
theorem dX8_addActor_12 : decode cX8_addActor 12 = .ok (.iload_n 2, 1) := by decide +kernel
theorem dX8_addActor_13 : decode cX8_addActor 13 = .ok (.invokestatic 46, 3) := by decide +kernel
theorem dX8_addActor_16 : decode cX8_addActor 16 = .ok (.ifCond .eq 10, 3) := by decide +kernel
theorem dX8_addActor_19 : decode cX8_addActor 19 = .ok (.iload_n 3, 1) := by decide +kernel
theorem dX8_addActor_20 : decode cX8_addActor 20 = .ok (.invokestatic 46, 3) := by decide +kernel
theorem dX8_addActor_23 : decode cX8_addActor 23 = .ok (.ifCond .ne 7, 3) := by decide +kernel
theorem dX8_addActor_26 : decode cX8_addActor 26 = .ok (.sipush (-2001), 3) := by decide +kernel
theorem dX8_addActor_29 : decode cX8_addActor 29 = .ok (.ireturn, 1) := by decide +kernel
theorem dX8_addActor_30 : decode cX8_addActor 30 = .ok (.aload_n 0, 1) := by decide +kernel
theorem dX8_addActor_31 : decode cX8_addActor 31 = .ok (.getfield 7, 3) := by decide +kernel
theorem dX8_addActor_34 : decode cX8_addActor 34 = .ok (.iconst 1, 1) := by decide +kernel
theorem dX8_addActor_35 : decode cX8_addActor 35 = .ok (.iaload, 1) := by decide +kernel
theorem dX8_addActor_36 : decode cX8_addActor 36 = .ok (.bipush 8, 2) := by decide +kernel
theorem dX8_addActor_38 : decode cX8_addActor 38 = .ok (.if_icmp .ne 7, 3) := by decide +kernel
theorem dX8_addActor_41 : decode cX8_addActor 41 = .ok (.sipush (-2003), 3) := by decide +kernel
theorem dX8_addActor_44 : decode cX8_addActor 44 = .ok (.ireturn, 1) := by decide +kernel
theorem dX8_addActor_45 : decode cX8_addActor 45 = .ok (.aload_n 0, 1) := by decide +kernel
theorem dX8_addActor_46 : decode cX8_addActor 46 = .ok (.invokevirtual 29, 3) := by decide +kernel
theorem dX8_addActor_49 : decode cX8_addActor 49 = .ok (.aload_n 0, 1) := by decide +kernel
theorem dX8_addActor_50 : decode cX8_addActor 50 = .ok (.iload_n 1, 1) := by decide +kernel
theorem dX8_addActor_51 : decode cX8_addActor 51 = .ok (.iload_n 2, 1) := by decide +kernel
theorem dX8_addActor_52 : decode cX8_addActor 52 = .ok (.iload_n 3, 1) := by decide +kernel
theorem dX8_addActor_53 : decode cX8_addActor 53 = .ok (.invokevirtual 65, 3) := by decide +kernel
theorem dX8_addActor_56 : decode cX8_addActor 56 = .ok (.ireturn, 1) := by decide +kernel
set_option maxRecDepth 20000 in
theorem ggX8_set_X8_in : GoodIn wsX8_set wsX8_in := goodIn_r _ [8] (by decide +kernel) (by decide +kernel)
set_option maxRecDepth 20000 in
theorem gX8_set_X8_in : GoodIn wsX8_set (va_wsS RX8 32 yX8_in wsX8_in) := goodIn_app (goodIn_of _ (by decide +kernel)) ggX8_set_X8_in
set_option maxRecDepth 20000 in
theorem ggX8_set_X8_put : GoodIn wsX8_set wsX8_put := goodIn_r _ [12, 13, 14, 15, 16, 7, 17, 18, 19, 20, 21, 22, 23, 24, 25, 26, 27, 28, 29, 30, 31] (by decide +kernel) (by decide +kernel)
set_option maxRecDepth 20000 in
theorem gX8_set_X8_put : GoodIn wsX8_set (wsV RX8 61 RX8 yX8_put wsX8_put) := goodIn_app (goodIn_of _ (by decide +kernel)) ggX8_set_X8_put
theorem dX8_set_0 : decode cX8_set 0 = .ok (.aload_n 0, 1) := by decide +kernel
theorem dX8_set_1 : decode cX8_set 1 = .ok (.iconst 0, 1) := by decide +kernel
theorem dX8_set_2 : decode cX8_set 2 = .ok (.putfield 22, 3) := by decide +kernel
theorem dX8_set_5 : decode cX8_set 5 = .ok (.iload_n 1, 1) := by decide +kernel
theorem dX8_set_6 : decode cX8_set 6 = .ok (.iconst 3, 1) := by decide +kernel
theorem dX8_set_7 : decode cX8_set 7 = .ok (.if_icmp .ne 15, 3) := by decide +kernel
theorem dX8_set_10 : decode cX8_set 10 = .ok (.iload_n 2, 1) := by decide +kernel
theorem dX8_set_11 : decode cX8_set 11 = .ok (.i2l, 1) := by decide +kernel
theorem dX8_set_12 : decode cX8_set 12 = .ok (.lconst 1, 1) := by decide +kernel
theorem dX8_set_13 : decode cX8_set 13 = .ok (.ldc2_w 69, 3) := by decide +kernel
theorem dX8_set_16 : decode cX8_set 16 = .ok (.invokestatic 32, 3) := by decide +kernel
theorem dX8_set_19 : decode cX8_set 19 = .ok (.goto 32, 3) := by decide +kernel
theorem dX8_set_22 : decode cX8_set 22 = .ok (.iload_n 1, 1) := by decide +kernel
theorem dX8_set_23 : decode cX8_set 23 = .ok (.i2l, 1) := by decide +kernel
theorem dX8_set_24 : decode cX8_set 24 = .ok (.lconst 0, 1) := by decide +kernel
theorem dX8_set_25 : decode cX8_set 25 = .ok (.ldc2_w 71, 3) := by decide +kernel
theorem dX8_set_28 : decode cX8_set 28 = .ok (.invokestatic 32, 3) := by decide +kernel
theorem dX8_set_31 : decode cX8_set 31 = .ok (.ifCond .eq 19, 3) := by decide +kernel
theorem dX8_set_34 : decode cX8_set 34 = .ok (.iload_n 2, 1) := by decide +kernel
theorem dX8_set_35 : decode cX8_set 35 = .ok (.i2l, 1) := by decide +kernel
theorem dX8_set_36 : decode cX8_set 36 = .ok (.lconst 0, 1) := by decide +kernel
theorem dX8_set_37 : decode cX8_set 37 = .ok (.ldc2_w 73, 3) := by decide +kernel
theorem dX8_set_40 : decode cX8_set 40 = .ok (.invokestatic 32, 3) := by decide +kernel
theorem dX8_set_43 : decode cX8_set 43 = .ok (.ifCond .eq 7, 3) := by decide +kernel
theorem dX8_set_46 : decode cX8_set 46 = .ok (.iconst 1, 1) := by decide +kernel
theorem dX8_set_47 : decode cX8_set 47 = .ok (.goto 4, 3) := by decide +kernel
theorem dX8_set_50 : decode cX8_set 50 = .ok (.iconst 0, 1) := by decide +kernel
theorem dX8_set_51 : decode cX8_set 51 = .ok (.istore_n 3, 1) := by decide +kernel
theorem dX8_set_52 : decode cX8_set 52 = .ok (.iload_n 3, 1) := by decide +kernel
theorem dX8_set_53 : decode cX8_set 53 = .ok (.ifCond .eq 15, 3) := by decide +kernel
theorem dX8_set_56 : decode cX8_set 56 = .ok (.aload_n 0, 1) := by decide +kernel
theorem dX8_set_57 : decode cX8_set 57 = .ok (.bipush 8, 2) := by decide +kernel
theorem dX8_set_59 : decode cX8_set 59 = .ok (.iload_n 1, 1) := by decide +kernel
theorem dX8_set_60 : decode cX8_set 60 = .ok (.iadd, 1) := by decide +kernel
theorem dX8_set_61 : decode cX8_set 61 = .ok (.iload_n 2, 1) := by decide +kernel
theorem dX8_set_62 : decode cX8_set 62 = .ok (.invokevirtual 61, 3) := by decide +kernel
theorem dX8_set_65 : decode cX8_set 65 = .ok (.goto 6, 3) := by decide +kernel
theorem dX8_set_68 : decode cX8_set 68 = .ok (.sipush (-2001), 3) := by decide +kernel
theorem dX8_set_71 : decode cX8_set 71 = .ok (.ireturn, 1) := by decide +kernel
set_option maxRecDepth 20000 in
theorem ggX8_present_X8_of : GoodIn wsX8_present wsX8_of := goodIn_r _ [5, 6, 7, 8, 9, 10, 11, 12, 13, 14, 15, 16, 17, 18] (by decide +kernel) (by decide +kernel)
set_option maxRecDepth 20000 in
theorem gX8_present_X8_of : GoodIn wsX8_present (wsV RX8 75 RX8 yX8_of wsX8_of) := goodIn_app (goodIn_of _ (by decide +kernel)) ggX8_present_X8_of
theorem dX8_present_0 : decode cX8_present 0 = .ok (.aload_n 0, 1) := by decide +kernel
theorem dX8_present_1 : decode cX8_present 1 = .ok (.iload_n 1, 1) := by decide +kernel
theorem dX8_present_2 : decode cX8_present 2 = .ok (.iload_n 2, 1) := by decide +kernel
theorem dX8_present_3 : decode cX8_present 3 = .ok (.invokevirtual 75, 3) := by decide +kernel
theorem dX8_present_6 : decode cX8_present 6 = .ok (.istore_n 3, 1) := by decide +kernel
theorem dX8_present_7 : decode cX8_present 7 = .ok (.iconst 0, 1) := by decide +kernel
theorem dX8_present_8 : decode cX8_present 8 = .ok (.istore 4, 2) := by decide +kernel
theorem dX8_present_10 : decode cX8_present 10 = .ok (.iload 4, 2) := by decide +kernel
theorem dX8_present_12 : decode cX8_present 12 = .ok (.aload_n 0, 1) := by decide +kernel
theorem dX8_present_13 : decode cX8_present 13 = .ok (.iload_n 1, 1) := by decide +kernel
theorem dX8_present_14 : decode cX8_present 14 = .ok (.bipush 7, 2) := by decide +kernel
theorem dX8_present_16 : decode cX8_present 16 = .ok (.invokevirtual 75, 3) := by decide +kernel
theorem dX8_present_19 : decode cX8_present 19 = .ok (.if_icmp .ge 46, 3) := by decide +kernel
theorem dX8_present_22 : decode cX8_present 22 = .ok (.iload_n 3, 1) := by decide +kernel
theorem dX8_present_23 : decode cX8_present 23 = .ok (.aload_n 0, 1) := by decide +kernel
theorem dX8_present_24 : decode cX8_present 24 = .ok (.iload_n 1, 1) := by decide +kernel
theorem dX8_present_25 : decode cX8_present 25 = .ok (.bipush 8, 2) := by decide +kernel
theorem dX8_present_27 : decode cX8_present 27 = .ok (.iconst 2, 1) := by decide +kernel
theorem dX8_present_28 : decode cX8_present 28 = .ok (.iload 4, 2) := by decide +kernel
theorem dX8_present_30 : decode cX8_present 30 = .ok (.imul, 1) := by decide +kernel
theorem dX8_present_31 : decode cX8_present 31 = .ok (.iadd, 1) := by decide +kernel
theorem dX8_present_32 : decode cX8_present 32 = .ok (.invokevirtual 75, 3) := by decide +kernel
theorem dX8_present_35 : decode cX8_present 35 = .ok (.iload_n 2, 1) := by decide +kernel
theorem dX8_present_36 : decode cX8_present 36 = .ok (.if_icmp .ne 20, 3) := by decide +kernel
theorem dX8_present_39 : decode cX8_present 39 = .ok (.aload_n 0, 1) := by decide +kernel
theorem dX8_present_40 : decode cX8_present 40 = .ok (.iload_n 1, 1) := by decide +kernel
theorem dX8_present_41 : decode cX8_present 41 = .ok (.bipush 8, 2) := by decide +kernel
theorem dX8_present_43 : decode cX8_present 43 = .ok (.iconst 2, 1) := by decide +kernel
theorem dX8_present_44 : decode cX8_present 44 = .ok (.iload 4, 2) := by decide +kernel
theorem dX8_present_46 : decode cX8_present 46 = .ok (.imul, 1) := by decide +kernel
theorem dX8_present_47 : decode cX8_present 47 = .ok (.iadd, 1) := by decide +kernel
theorem dX8_present_48 : decode cX8_present 48 = .ok (.iconst 1, 1) := by decide +kernel
theorem dX8_present_49 : decode cX8_present 49 = .ok (.iadd, 1) := by decide +kernel
theorem dX8_present_50 : decode cX8_present 50 = .ok (.invokevirtual 75, 3) := by decide +kernel
theorem dX8_present_53 : decode cX8_present 53 = .ok (.goto 4, 3) := by decide +kernel
theorem dX8_present_56 : decode cX8_present 56 = .ok (.iconst 0, 1) := by decide +kernel
theorem dX8_present_57 : decode cX8_present 57 = .ok (.iadd, 1) := by decide +kernel
theorem dX8_present_58 : decode cX8_present 58 = .ok (.istore_n 3, 1) := by decide +kernel
theorem dX8_present_59 : decode cX8_present 59 = .ok (.iinc 4 1, 3) := by decide +kernel
theorem dX8_present_62 : decode cX8_present 62 = .ok (.goto (-52), 3) := by decide +kernel
theorem dX8_present_65 : decode cX8_present 65 = .ok (.iload_n 3, 1) := by decide +kernel
theorem dX8_present_66 : decode cX8_present 66 = .ok (.ireturn, 1) := by decide +kernel
set_option maxRecDepth 20000 in
theorem ggX8_isAllowed_X8_present : GoodIn wsX8_isAllowed wsX8_present := goodIn_r _ [5, 6, 7, 8, 4, 9, 10, 11, 12, 13, 14, 15, 16, 17, 18, 19, 20, 21, 22] (by decide +kernel) (by decide +kernel)
set_option maxRecDepth 20000 in
theorem gX8_isAllowed_X8_present : GoodIn wsX8_isAllowed (wsV RX8 78 RX8 yX8_present wsX8_present) := goodIn_app (goodIn_of _ (by decide +kernel)) ggX8_isAllowed_X8_present
set_option maxRecDepth 20000 in
theorem ggX8_isAllowed_X8_of : GoodIn wsX8_isAllowed wsX8_of := goodIn_r _ [9, 10, 11, 12, 13, 14, 15, 16, 17, 18, 19, 20, 21, 22] (by decide +kernel) (by decide +kernel)
set_option maxRecDepth 20000 in
theorem gX8_isAllowed_X8_of : GoodIn wsX8_isAllowed (wsV RX8 75 RX8 yX8_of wsX8_of) := goodIn_app (goodIn_of _ (by decide +kernel)) ggX8_isAllowed_X8_of
theorem dX8_isAllowed_0 : decode cX8_isAllowed 0 = .ok (.aload_n 0, 1) := by decide +kernel
theorem dX8_isAllowed_1 : decode cX8_isAllowed 1 = .ok (.iload_n 1, 1) := by decide +kernel
theorem dX8_isAllowed_2 : decode cX8_isAllowed 2 = .ok (.iload_n 2, 1) := by decide +kernel
theorem dX8_isAllowed_3 : decode cX8_isAllowed 3 = .ok (.invokevirtual 78, 3) := by decide +kernel
theorem dX8_isAllowed_6 : decode cX8_isAllowed 6 = .ok (.iload_n 3, 1) := by decide +kernel
theorem dX8_isAllowed_7 : decode cX8_isAllowed 7 = .ok (.iadd, 1) := by decide +kernel
theorem dX8_isAllowed_8 : decode cX8_isAllowed 8 = .ok (.istore 4, 2) := by decide +kernel
theorem dX8_isAllowed_10 : decode cX8_isAllowed 10 = .ok (.aload_n 0, 1) := by decide +kernel
theorem dX8_isAllowed_11 : decode cX8_isAllowed 11 = .ok (.iload_n 1, 1) := by decide +kernel
theorem dX8_isAllowed_12 : decode cX8_isAllowed 12 = .ok (.iload_n 2, 1) := by decide +kernel
theorem dX8_isAllowed_13 : decode cX8_isAllowed 13 = .ok (.invokevirtual 75, 3) := by decide +kernel
theorem dX8_isAllowed_16 : decode cX8_isAllowed 16 = .ok (.istore 5, 2) := by decide +kernel
theorem dX8_isAllowed_18 : decode cX8_isAllowed 18 = .ok (.iload 4, 2) := by decide +kernel
theorem dX8_isAllowed_20 : decode cX8_isAllowed 20 = .ok (.bipush 40, 2) := by decide +kernel
theorem dX8_isAllowed_22 : decode cX8_isAllowed 22 = .ok (.if_icmp .lt 31, 3) := by decide +kernel
theorem dX8_isAllowed_25 : decode cX8_isAllowed 25 = .ok (.iload 4, 2) := by decide +kernel
theorem dX8_isAllowed_27 : decode cX8_isAllowed 27 = .ok (.iload 5, 2) := by decide +kernel
theorem dX8_isAllowed_29 : decode cX8_isAllowed 29 = .ok (.bipush 20, 2) := by decide +kernel
theorem dX8_isAllowed_31 : decode cX8_isAllowed 31 = .ok (.isub, 1) := by decide +kernel
theorem dX8_isAllowed_32 : decode cX8_isAllowed 32 = .ok (.if_icmp .lt 21, 3) := by decide +kernel
theorem dX8_isAllowed_35 : decode cX8_isAllowed 35 = .ok (.iload 4, 2) := by decide +kernel
theorem dX8_isAllowed_37 : decode cX8_isAllowed 37 = .ok (.iload 5, 2) := by decide +kernel
theorem dX8_isAllowed_39 : decode cX8_isAllowed 39 = .ok (.aload_n 0, 1) := by decide +kernel
theorem dX8_isAllowed_40 : decode cX8_isAllowed 40 = .ok (.iload_n 1, 1) := by decide +kernel
theorem dX8_isAllowed_41 : decode cX8_isAllowed 41 = .ok (.iconst 3, 1) := by decide +kernel
theorem dX8_isAllowed_42 : decode cX8_isAllowed 42 = .ok (.invokevirtual 75, 3) := by decide +kernel
theorem dX8_isAllowed_45 : decode cX8_isAllowed 45 = .ok (.iadd, 1) := by decide +kernel
theorem dX8_isAllowed_46 : decode cX8_isAllowed 46 = .ok (.if_icmp .gt 7, 3) := by decide +kernel
theorem dX8_isAllowed_49 : decode cX8_isAllowed 49 = .ok (.iconst 1, 1) := by decide +kernel
theorem dX8_isAllowed_50 : decode cX8_isAllowed 50 = .ok (.goto 4, 3) := by decide +kernel
theorem dX8_isAllowed_53 : decode cX8_isAllowed 53 = .ok (.iconst 0, 1) := by decide +kernel
theorem dX8_isAllowed_54 : decode cX8_isAllowed 54 = .ok (.ireturn, 1) := by decide +kernel
set_option maxRecDepth 20000 in
theorem ggX8_isAway_X8_ofHire : GoodIn wsX8_isAway wsX8_ofHire := goodIn_r _ [6, 1, 10, 11, 12, 13, 14, 15, 16, 17, 18, 19, 20, 21] (by decide +kernel) (by decide +kernel)
set_option maxRecDepth 20000 in
theorem gX8_isAway_X8_ofHire : GoodIn wsX8_isAway (wsV RX8 81 RX8 yX8_ofHire wsX8_ofHire) := goodIn_app (goodIn_of _ (by decide +kernel)) ggX8_isAway_X8_ofHire
set_option maxRecDepth 20000 in
theorem ggX8_isAway_X8_in : GoodIn wsX8_isAway wsX8_in := goodIn_r _ [9] (by decide +kernel) (by decide +kernel)
set_option maxRecDepth 20000 in
theorem gX8_isAway_X8_in : GoodIn wsX8_isAway (va_wsS RX8 32 yX8_in wsX8_in) := goodIn_app (goodIn_of _ (by decide +kernel)) ggX8_isAway_X8_in
theorem dX8_isAway_0 : decode cX8_isAway 0 = .ok (.iconst 0, 1) := by decide +kernel
theorem dX8_isAway_1 : decode cX8_isAway 1 = .ok (.istore_n 3, 1) := by decide +kernel
theorem dX8_isAway_2 : decode cX8_isAway 2 = .ok (.iload_n 3, 1) := by decide +kernel
theorem dX8_isAway_3 : decode cX8_isAway 3 = .ok (.aload_n 0, 1) := by decide +kernel
theorem dX8_isAway_4 : decode cX8_isAway 4 = .ok (.getfield 7, 3) := by decide +kernel
theorem dX8_isAway_7 : decode cX8_isAway 7 = .ok (.iconst 2, 1) := by decide +kernel
theorem dX8_isAway_8 : decode cX8_isAway 8 = .ok (.iaload, 1) := by decide +kernel
theorem dX8_isAway_9 : decode cX8_isAway 9 = .ok (.if_icmp .ge 52, 3) := by decide +kernel
theorem dX8_isAway_12 : decode cX8_isAway 12 = .ok (.aload_n 0, 1) := by decide +kernel
theorem dX8_isAway_13 : decode cX8_isAway 13 = .ok (.iload_n 3, 1) := by decide +kernel
theorem dX8_isAway_14 : decode cX8_isAway 14 = .ok (.iconst 0, 1) := by decide +kernel
theorem dX8_isAway_15 : decode cX8_isAway 15 = .ok (.invokevirtual 81, 3) := by decide +kernel
theorem dX8_isAway_18 : decode cX8_isAway 18 = .ok (.iload_n 1, 1) := by decide +kernel
theorem dX8_isAway_19 : decode cX8_isAway 19 = .ok (.if_icmp .ne 36, 3) := by decide +kernel
theorem dX8_isAway_22 : decode cX8_isAway 22 = .ok (.iload_n 2, 1) := by decide +kernel
theorem dX8_isAway_23 : decode cX8_isAway 23 = .ok (.i2l, 1) := by decide +kernel
theorem dX8_isAway_24 : decode cX8_isAway 24 = .ok (.aload_n 0, 1) := by decide +kernel
theorem dX8_isAway_25 : decode cX8_isAway 25 = .ok (.iload_n 3, 1) := by decide +kernel
theorem dX8_isAway_26 : decode cX8_isAway 26 = .ok (.iconst 1, 1) := by decide +kernel
theorem dX8_isAway_27 : decode cX8_isAway 27 = .ok (.invokevirtual 81, 3) := by decide +kernel
theorem dX8_isAway_30 : decode cX8_isAway 30 = .ok (.i2l, 1) := by decide +kernel
theorem dX8_isAway_31 : decode cX8_isAway 31 = .ok (.aload_n 0, 1) := by decide +kernel
theorem dX8_isAway_32 : decode cX8_isAway 32 = .ok (.iload_n 3, 1) := by decide +kernel
theorem dX8_isAway_33 : decode cX8_isAway 33 = .ok (.iconst 1, 1) := by decide +kernel
theorem dX8_isAway_34 : decode cX8_isAway 34 = .ok (.invokevirtual 81, 3) := by decide +kernel
theorem dX8_isAway_37 : decode cX8_isAway 37 = .ok (.aload_n 0, 1) := by decide +kernel
theorem dX8_isAway_38 : decode cX8_isAway 38 = .ok (.iload_n 3, 1) := by decide +kernel
theorem dX8_isAway_39 : decode cX8_isAway 39 = .ok (.iconst 2, 1) := by decide +kernel
theorem dX8_isAway_40 : decode cX8_isAway 40 = .ok (.invokevirtual 81, 3) := by decide +kernel
theorem dX8_isAway_43 : decode cX8_isAway 43 = .ok (.iadd, 1) := by decide +kernel
theorem dX8_isAway_44 : decode cX8_isAway 44 = .ok (.iconst 1, 1) := by decide +kernel
theorem dX8_isAway_45 : decode cX8_isAway 45 = .ok (.isub, 1) := by decide +kernel
theorem dX8_isAway_46 : decode cX8_isAway 46 = .ok (.i2l, 1) := by decide +kernel
theorem dX8_isAway_47 : decode cX8_isAway 47 = .ok (.invokestatic 32, 3) := by decide +kernel
theorem dX8_isAway_50 : decode cX8_isAway 50 = .ok (.ifCond .eq 5, 3) := by decide +kernel
theorem dX8_isAway_53 : decode cX8_isAway 53 = .ok (.iconst 1, 1) := by decide +kernel
theorem dX8_isAway_54 : decode cX8_isAway 54 = .ok (.ireturn, 1) := by decide +kernel
theorem dX8_isAway_55 : decode cX8_isAway 55 = .ok (.iinc 3 1, 3) := by decide +kernel
theorem dX8_isAway_58 : decode cX8_isAway 58 = .ok (.goto (-56), 3) := by decide +kernel
theorem dX8_isAway_61 : decode cX8_isAway 61 = .ok (.iconst 0, 1) := by decide +kernel
theorem dX8_isAway_62 : decode cX8_isAway 62 = .ok (.ireturn, 1) := by decide +kernel
set_option maxRecDepth 20000 in
theorem ggX8_isAwayToday_X8_isAway : GoodIn wsX8_isAwayToday wsX8_isAway := goodIn_r _ [6, 1, 7, 8, 9, 5, 10, 11, 12, 13, 14, 15, 16, 17, 18, 19, 20, 21, 22, 23, 24, 25] (by decide +kernel) (by decide +kernel)
set_option maxRecDepth 20000 in
theorem gX8_isAwayToday_X8_isAway : GoodIn wsX8_isAwayToday (wsV RX8 84 RX8 yX8_isAway wsX8_isAway) := goodIn_app (goodIn_of _ (by decide +kernel)) ggX8_isAwayToday_X8_isAway
theorem dX8_isAwayToday_0 : decode cX8_isAwayToday 0 = .ok (.aload_n 0, 1) := by decide +kernel
theorem dX8_isAwayToday_1 : decode cX8_isAwayToday 1 = .ok (.iload_n 1, 1) := by decide +kernel
theorem dX8_isAwayToday_2 : decode cX8_isAwayToday 2 = .ok (.aload_n 0, 1) := by decide +kernel
theorem dX8_isAwayToday_3 : decode cX8_isAwayToday 3 = .ok (.getfield 7, 3) := by decide +kernel
theorem dX8_isAwayToday_6 : decode cX8_isAwayToday 6 = .ok (.iconst 3, 1) := by decide +kernel
theorem dX8_isAwayToday_7 : decode cX8_isAwayToday 7 = .ok (.iaload, 1) := by decide +kernel
theorem dX8_isAwayToday_8 : decode cX8_isAwayToday 8 = .ok (.invokevirtual 84, 3) := by decide +kernel
theorem dX8_isAwayToday_11 : decode cX8_isAwayToday 11 = .ok (.ireturn, 1) := by decide +kernel
set_option maxRecDepth 20000 in
theorem ggX8_alter_X8_isCostume : GoodIn wsX8_alter wsX8_isCostume := goodIn_r _ [10, 5, 11, 12, 9, 13, 51, 52, 53, 54, 55, 56, 57, 58, 59, 60, 61, 62] (by decide +kernel) (by decide +kernel)
set_option maxRecDepth 20000 in
theorem gX8_alter_X8_isCostume : GoodIn wsX8_alter (wsV RX8 58 RX8 yX8_isCostume wsX8_isCostume) := goodIn_app (goodIn_of _ (by decide +kernel)) ggX8_alter_X8_isCostume
set_option maxRecDepth 20000 in
theorem ggX8_alter_X8_in : GoodIn wsX8_alter wsX8_in := goodIn_r _ [13] (by decide +kernel) (by decide +kernel)
set_option maxRecDepth 20000 in
theorem gX8_alter_X8_in : GoodIn wsX8_alter (va_wsS RX8 32 yX8_in wsX8_in) := goodIn_app (goodIn_of _ (by decide +kernel)) ggX8_alter_X8_in
set_option maxRecDepth 20000 in
theorem ggX8_alter_X8_isAwayToday : GoodIn wsX8_alter wsX8_isAwayToday := goodIn_r _ [17, 5, 18, 19, 20, 9, 21, 22, 23, 24, 25, 11, 12, 13, 51, 52, 53, 54, 55, 56, 57, 58, 59, 60, 61, 62] (by decide +kernel) (by decide +kernel)
set_option maxRecDepth 20000 in
theorem gX8_alter_X8_isAwayToday : GoodIn wsX8_alter (wsV RX8 92 RX8 yX8_isAwayToday wsX8_isAwayToday) := goodIn_app (goodIn_of _ (by decide +kernel)) ggX8_alter_X8_isAwayToday
set_option maxRecDepth 20000 in
theorem ggX8_alter_X8_isAllowed : GoodIn wsX8_alter wsX8_isAllowed := goodIn_r _ [29, 30, 31, 32, 9, 33, 34, 35, 36, 37, 5, 51, 52, 53, 54, 55, 56, 57, 58, 59, 60, 61, 62] (by decide +kernel) (by decide +kernel)
set_option maxRecDepth 20000 in
theorem gX8_alter_X8_isAllowed : GoodIn wsX8_alter (wsV RX8 95 RX8 yX8_isAllowed wsX8_isAllowed) := goodIn_app (goodIn_of _ (by decide +kernel)) ggX8_alter_X8_isAllowed
set_option maxRecDepth 20000 in
theorem ggX8_alter_X8_of : GoodIn wsX8_alter wsX8_of := goodIn_r _ [37, 5, 51, 52, 53, 54, 55, 56, 57, 58, 59, 60, 61, 62] (by decide +kernel) (by decide +kernel)
set_option maxRecDepth 20000 in
theorem gX8_alter_X8_of : GoodIn wsX8_alter (wsV RX8 75 RX8 yX8_of wsX8_of) := goodIn_app (goodIn_of _ (by decide +kernel)) ggX8_alter_X8_of
set_option maxRecDepth 20000 in
theorem ggX8_alter_X8_act : GoodIn wsX8_alter wsX8_act := goodIn_r _ [41, 42, 43, 5, 51, 52, 53, 54, 55, 56, 57, 58, 59, 60, 61, 62] (by decide +kernel) (by decide +kernel)
set_option maxRecDepth 20000 in
theorem gX8_alter_X8_act : GoodIn wsX8_alter (wsV RX8 29 RX8 yX8_act wsX8_act) := goodIn_app (goodIn_of _ (by decide +kernel)) ggX8_alter_X8_act
set_option maxRecDepth 20000 in
theorem ggX8_alter_X8_lay : GoodIn wsX8_alter wsX8_lay := goodIn_r _ [47, 5, 51, 52, 53, 54, 55, 56, 57, 58, 59, 60, 61, 62] (by decide +kernel) (by decide +kernel)
set_option maxRecDepth 20000 in
theorem gX8_alter_X8_lay : GoodIn wsX8_alter (wsV RX8 42 RX8 yX8_lay wsX8_lay) := goodIn_app (goodIn_of _ (by decide +kernel)) ggX8_alter_X8_lay
set_option maxRecDepth 20000 in
theorem ggX8_alter_X8_distance : GoodIn wsX8_alter wsX8_distance := goodIn_r _ [50] (by decide +kernel) (by decide +kernel)
set_option maxRecDepth 20000 in
theorem gX8_alter_X8_distance : GoodIn wsX8_alter (va_wsS RX8 99 yX8_distance wsX8_distance) := goodIn_app (goodIn_of _ (by decide +kernel)) ggX8_alter_X8_distance
theorem dX8_alter_0 : decode cX8_alter 0 = .ok (.aload_n 0, 1) := by decide +kernel
theorem dX8_alter_1 : decode cX8_alter 1 = .ok (.iconst 0, 1) := by decide +kernel
theorem dX8_alter_2 : decode cX8_alter 2 = .ok (.putfield 22, 3) := by decide +kernel
theorem dX8_alter_5 : decode cX8_alter 5 = .ok (.aload_n 0, 1) := by decide +kernel
theorem dX8_alter_6 : decode cX8_alter 6 = .ok (.iload_n 1, 1) := by decide +kernel
theorem dX8_alter_7 : decode cX8_alter 7 = .ok (.invokevirtual 58, 3) := by decide +kernel
theorem dX8_alter_10 : decode cX8_alter 10 = .ok (.ifCond .eq 33, 3) := by decide +kernel
theorem dX8_alter_13 : decode cX8_alter 13 = .ok (.iload_n 2, 1) := by decide +kernel
theorem dX8_alter_14 : decode cX8_alter 14 = .ok (.i2l, 1) := by decide +kernel
theorem dX8_alter_15 : decode cX8_alter 15 = .ok (.lconst 0, 1) := by decide +kernel
theorem dX8_alter_16 : decode cX8_alter 16 = .ok (.ldc2_w 71, 3) := by decide +kernel
theorem dX8_alter_19 : decode cX8_alter 19 = .ok (.invokestatic 32, 3) := by decide +kernel
theorem dX8_alter_22 : decode cX8_alter 22 = .ok (.ifCond .eq 21, 3) := by decide +kernel
theorem dX8_alter_25 : decode cX8_alter 25 = .ok (.iload_n 3, 1) := by decide +kernel
theorem dX8_alter_26 : decode cX8_alter 26 = .ok (.i2l, 1) := by decide +kernel
theorem dX8_alter_27 : decode cX8_alter 27 = .ok (.ldc2_w 88, 3) := by decide +kernel
theorem dX8_alter_30 : decode cX8_alter 30 = .ok (.ldc2_w 90, 3) := by decide +kernel
theorem dX8_alter_33 : decode cX8_alter 33 = .ok (.invokestatic 32, 3) := by decide +kernel
theorem dX8_alter_36 : decode cX8_alter 36 = .ok (.ifCond .eq 7, 3) := by decide +kernel
theorem dX8_alter_39 : decode cX8_alter 39 = .ok (.iload_n 3, 1) := by decide +kernel
theorem dX8_alter_40 : decode cX8_alter 40 = .ok (.ifCond .ne 7, 3) := by decide +kernel
theorem dX8_alter_43 : decode cX8_alter 43 = .ok (.sipush (-2001), 3) := by decide +kernel
theorem dX8_alter_46 : decode cX8_alter 46 = .ok (.ireturn, 1) := by decide +kernel
theorem dX8_alter_47 : decode cX8_alter 47 = .ok (.aload_n 0, 1) := by decide +kernel
theorem dX8_alter_48 : decode cX8_alter 48 = .ok (.iload_n 1, 1) := by decide +kernel
theorem dX8_alter_49 : decode cX8_alter 49 = .ok (.invokevirtual 92, 3) := by decide +kernel
theorem dX8_alter_52 : decode cX8_alter 52 = .ok (.ifCond .ne 13, 3) := by decide +kernel
theorem dX8_alter_55 : decode cX8_alter 55 = .ok (.aload_n 0, 1) := by decide +kernel
theorem dX8_alter_56 : decode cX8_alter 56 = .ok (.iload_n 1, 1) := by decide +kernel
theorem dX8_alter_57 : decode cX8_alter 57 = .ok (.iload_n 2, 1) := by decide +kernel
theorem dX8_alter_58 : decode cX8_alter 58 = .ok (.iload_n 3, 1) := by decide +kernel
theorem dX8_alter_59 : decode cX8_alter 59 = .ok (.invokevirtual 95, 3) := by decide +kernel
theorem dX8_alter_62 : decode cX8_alter 62 = .ok (.ifCond .ne 7, 3) := by decide +kernel
theorem dX8_alter_65 : decode cX8_alter 65 = .ok (.sipush (-2002), 3) := by decide +kernel
theorem dX8_alter_68 : decode cX8_alter 68 = .ok (.ireturn, 1) := by decide +kernel
theorem dX8_alter_69 : decode cX8_alter 69 = .ok (.aload_n 0, 1) := by decide +kernel
theorem dX8_alter_70 : decode cX8_alter 70 = .ok (.iload_n 1, 1) := by decide +kernel
theorem dX8_alter_71 : decode cX8_alter 71 = .ok (.bipush 7, 2) := by decide +kernel
theorem dX8_alter_73 : decode cX8_alter 73 = .ok (.invokevirtual 75, 3) := by decide +kernel
theorem dX8_alter_76 : decode cX8_alter 76 = .ok (.istore 4, 2) := by decide +kernel
theorem dX8_alter_78 : decode cX8_alter 78 = .ok (.iload 4, 2) := by decide +kernel
theorem dX8_alter_80 : decode cX8_alter 80 = .ok (.bipush 6, 2) := by decide +kernel
theorem dX8_alter_82 : decode cX8_alter 82 = .ok (.if_icmp .ne 7, 3) := by decide +kernel
theorem dX8_alter_85 : decode cX8_alter 85 = .ok (.sipush (-2003), 3) := by decide +kernel
theorem dX8_alter_88 : decode cX8_alter 88 = .ok (.ireturn, 1) := by decide +kernel
theorem dX8_alter_89 : decode cX8_alter 89 = .ok (.aload_n 0, 1) := by decide +kernel
theorem dX8_alter_90 : decode cX8_alter 90 = .ok (.invokevirtual 29, 3) := by decide +kernel
theorem dX8_alter_93 : decode cX8_alter 93 = .ok (.aload_n 0, 1) := by decide +kernel
theorem dX8_alter_94 : decode cX8_alter 94 = .ok (.iload_n 1, 1) := by decide +kernel
theorem dX8_alter_95 : decode cX8_alter 95 = .ok (.bipush 8, 2) := by decide +kernel
theorem dX8_alter_97 : decode cX8_alter 97 = .ok (.iconst 2, 1) := by decide +kernel
theorem dX8_alter_98 : decode cX8_alter 98 = .ok (.iload 4, 2) := by decide +kernel
theorem dX8_alter_100 : decode cX8_alter 100 = .ok (.imul, 1) := by decide +kernel
theorem dX8_alter_101 : decode cX8_alter 101 = .ok (.iadd, 1) := by decide +kernel
theorem dX8_alter_102 : decode cX8_alter 102 = .ok (.iload_n 2, 1) := by decide +kernel
theorem dX8_alter_103 : decode cX8_alter 103 = .ok (.invokevirtual 42, 3) := by decide +kernel
theorem dX8_alter_106 : decode cX8_alter 106 = .ok (.aload_n 0, 1) := by decide +kernel
theorem dX8_alter_107 : decode cX8_alter 107 = .ok (.iload_n 1, 1) := by decide +kernel
theorem dX8_alter_108 : decode cX8_alter 108 = .ok (.bipush 8, 2) := by decide +kernel
theorem dX8_alter_110 : decode cX8_alter 110 = .ok (.iconst 2, 1) := by decide +kernel
theorem dX8_alter_111 : decode cX8_alter 111 = .ok (.iload 4, 2) := by decide +kernel
theorem dX8_alter_113 : decode cX8_alter 113 = .ok (.imul, 1) := by decide +kernel
theorem dX8_alter_114 : decode cX8_alter 114 = .ok (.iadd, 1) := by decide +kernel
theorem dX8_alter_115 : decode cX8_alter 115 = .ok (.iconst 1, 1) := by decide +kernel
theorem dX8_alter_116 : decode cX8_alter 116 = .ok (.iadd, 1) := by decide +kernel
theorem dX8_alter_117 : decode cX8_alter 117 = .ok (.iload_n 3, 1) := by decide +kernel
theorem dX8_alter_118 : decode cX8_alter 118 = .ok (.invokevirtual 42, 3) := by decide +kernel
theorem dX8_alter_121 : decode cX8_alter 121 = .ok (.aload_n 0, 1) := by decide +kernel
theorem dX8_alter_122 : decode cX8_alter 122 = .ok (.iload_n 1, 1) := by decide +kernel
theorem dX8_alter_123 : decode cX8_alter 123 = .ok (.bipush 7, 2) := by decide +kernel
theorem dX8_alter_125 : decode cX8_alter 125 = .ok (.iload 4, 2) := by decide +kernel
theorem dX8_alter_127 : decode cX8_alter 127 = .ok (.iconst 1, 1) := by decide +kernel
theorem dX8_alter_128 : decode cX8_alter 128 = .ok (.iadd, 1) := by decide +kernel
theorem dX8_alter_129 : decode cX8_alter 129 = .ok (.invokevirtual 42, 3) := by decide +kernel
theorem dX8_alter_132 : decode cX8_alter 132 = .ok (.bipush 10, 2) := by decide +kernel
theorem dX8_alter_134 : decode cX8_alter 134 = .ok (.iconst 5, 1) := by decide +kernel
theorem dX8_alter_135 : decode cX8_alter 135 = .ok (.iload_n 3, 1) := by decide +kernel
theorem dX8_alter_136 : decode cX8_alter 136 = .ok (.iconst 0, 1) := by decide +kernel
theorem dX8_alter_137 : decode cX8_alter 137 = .ok (.invokestatic 99, 3) := by decide +kernel
theorem dX8_alter_140 : decode cX8_alter 140 = .ok (.imul, 1) := by decide +kernel
theorem dX8_alter_141 : decode cX8_alter 141 = .ok (.iadd, 1) := by decide +kernel
theorem dX8_alter_142 : decode cX8_alter 142 = .ok (.istore 5, 2) := by decide +kernel
theorem dX8_alter_144 : decode cX8_alter 144 = .ok (.aload_n 0, 1) := by decide +kernel
theorem dX8_alter_145 : decode cX8_alter 145 = .ok (.getfield 7, 3) := by decide +kernel
theorem dX8_alter_148 : decode cX8_alter 148 = .ok (.iconst 4, 1) := by decide +kernel
theorem dX8_alter_149 : decode cX8_alter 149 = .ok (.dup2, 1) := by decide +kernel
theorem dX8_alter_150 : decode cX8_alter 150 = .ok (.iaload, 1) := by decide +kernel
theorem dX8_alter_151 : decode cX8_alter 151 = .ok (.iload 5, 2) := by decide +kernel
theorem dX8_alter_153 : decode cX8_alter 153 = .ok (.iadd, 1) := by decide +kernel
theorem dX8_alter_154 : decode cX8_alter 154 = .ok (.iastore, 1) := by decide +kernel
theorem dX8_alter_155 : decode cX8_alter 155 = .ok (.iload 5, 2) := by decide +kernel
theorem dX8_alter_157 : decode cX8_alter 157 = .ok (.ireturn, 1) := by decide +kernel
set_option maxRecDepth 20000 in
theorem ggX8_unpick_X8_isCostume : GoodIn wsX8_unpick wsX8_isCostume := goodIn_r _ [7, 2, 8, 9, 6, 10, 40, 41, 42, 43, 44, 45, 46, 47, 48, 49, 50, 51] (by decide +kernel) (by decide +kernel)
set_option maxRecDepth 20000 in
theorem gX8_unpick_X8_isCostume : GoodIn wsX8_unpick (wsV RX8 58 RX8 yX8_isCostume wsX8_isCostume) := goodIn_app (goodIn_of _ (by decide +kernel)) ggX8_unpick_X8_isCostume
set_option maxRecDepth 20000 in
theorem ggX8_unpick_X8_of : GoodIn wsX8_unpick wsX8_of := goodIn_r _ [14, 2, 40, 41, 42, 43, 44, 45, 46, 47, 48, 49, 50, 51] (by decide +kernel) (by decide +kernel)
set_option maxRecDepth 20000 in
theorem gX8_unpick_X8_of : GoodIn wsX8_unpick (wsV RX8 75 RX8 yX8_of wsX8_of) := goodIn_app (goodIn_of _ (by decide +kernel)) ggX8_unpick_X8_of
set_option maxRecDepth 20000 in
theorem ggX8_unpick_X8_isAwayToday : GoodIn wsX8_unpick wsX8_isAwayToday := goodIn_r _ [18, 2, 19, 20, 21, 6, 22, 23, 24, 25, 26, 8, 9, 10, 40, 41, 42, 43, 44, 45, 46, 47, 48, 49, 50, 51] (by decide +kernel) (by decide +kernel)
set_option maxRecDepth 20000 in
theorem gX8_unpick_X8_isAwayToday : GoodIn wsX8_unpick (wsV RX8 92 RX8 yX8_isAwayToday wsX8_isAwayToday) := goodIn_app (goodIn_of _ (by decide +kernel)) ggX8_unpick_X8_isAwayToday
set_option maxRecDepth 20000 in
theorem ggX8_unpick_X8_act : GoodIn wsX8_unpick wsX8_act := goodIn_r _ [30, 31, 32, 2, 40, 41, 42, 43, 44, 45, 46, 47, 48, 49, 50, 51] (by decide +kernel) (by decide +kernel)
set_option maxRecDepth 20000 in
theorem gX8_unpick_X8_act : GoodIn wsX8_unpick (wsV RX8 29 RX8 yX8_act wsX8_act) := goodIn_app (goodIn_of _ (by decide +kernel)) ggX8_unpick_X8_act
set_option maxRecDepth 20000 in
theorem ggX8_unpick_X8_lay : GoodIn wsX8_unpick wsX8_lay := goodIn_r _ [36, 2, 40, 41, 42, 43, 44, 45, 46, 47, 48, 49, 50, 51] (by decide +kernel) (by decide +kernel)
set_option maxRecDepth 20000 in
theorem gX8_unpick_X8_lay : GoodIn wsX8_unpick (wsV RX8 42 RX8 yX8_lay wsX8_lay) := goodIn_app (goodIn_of _ (by decide +kernel)) ggX8_unpick_X8_lay
set_option maxRecDepth 20000 in
theorem ggX8_unpick_X8_distance : GoodIn wsX8_unpick wsX8_distance := goodIn_r _ [39] (by decide +kernel) (by decide +kernel)
set_option maxRecDepth 20000 in
theorem gX8_unpick_X8_distance : GoodIn wsX8_unpick (va_wsS RX8 99 yX8_distance wsX8_distance) := goodIn_app (goodIn_of _ (by decide +kernel)) ggX8_unpick_X8_distance
theorem dX8_unpick_0 : decode cX8_unpick 0 = .ok (.aload_n 0, 1) := by decide +kernel
theorem dX8_unpick_1 : decode cX8_unpick 1 = .ok (.iconst 0, 1) := by decide +kernel
theorem dX8_unpick_2 : decode cX8_unpick 2 = .ok (.putfield 22, 3) := by decide +kernel
theorem dX8_unpick_5 : decode cX8_unpick 5 = .ok (.aload_n 0, 1) := by decide +kernel
theorem dX8_unpick_6 : decode cX8_unpick 6 = .ok (.iload_n 1, 1) := by decide +kernel
theorem dX8_unpick_7 : decode cX8_unpick 7 = .ok (.invokevirtual 58, 3) := by decide +kernel
theorem dX8_unpick_10 : decode cX8_unpick 10 = .ok (.ifCond .ne 7, 3) := by decide +kernel
theorem dX8_unpick_13 : decode cX8_unpick 13 = .ok (.sipush (-2001), 3) := by decide +kernel
theorem dX8_unpick_16 : decode cX8_unpick 16 = .ok (.ireturn, 1) := by decide +kernel
theorem dX8_unpick_17 : decode cX8_unpick 17 = .ok (.aload_n 0, 1) := by decide +kernel
theorem dX8_unpick_18 : decode cX8_unpick 18 = .ok (.iload_n 1, 1) := by decide +kernel
theorem dX8_unpick_19 : decode cX8_unpick 19 = .ok (.bipush 7, 2) := by decide +kernel
theorem dX8_unpick_21 : decode cX8_unpick 21 = .ok (.invokevirtual 75, 3) := by decide +kernel
theorem dX8_unpick_24 : decode cX8_unpick 24 = .ok (.istore_n 2, 1) := by decide +kernel
theorem dX8_unpick_25 : decode cX8_unpick 25 = .ok (.aload_n 0, 1) := by decide +kernel
theorem dX8_unpick_26 : decode cX8_unpick 26 = .ok (.iload_n 1, 1) := by decide +kernel
theorem dX8_unpick_27 : decode cX8_unpick 27 = .ok (.invokevirtual 92, 3) := by decide +kernel
theorem dX8_unpick_30 : decode cX8_unpick 30 = .ok (.ifCond .ne 7, 3) := by decide +kernel
theorem dX8_unpick_33 : decode cX8_unpick 33 = .ok (.iload_n 2, 1) := by decide +kernel
theorem dX8_unpick_34 : decode cX8_unpick 34 = .ok (.ifCond .ne 7, 3) := by decide +kernel
theorem dX8_unpick_37 : decode cX8_unpick 37 = .ok (.sipush (-2002), 3) := by decide +kernel
theorem dX8_unpick_40 : decode cX8_unpick 40 = .ok (.ireturn, 1) := by decide +kernel
theorem dX8_unpick_41 : decode cX8_unpick 41 = .ok (.aload_n 0, 1) := by decide +kernel
theorem dX8_unpick_42 : decode cX8_unpick 42 = .ok (.invokevirtual 29, 3) := by decide +kernel
theorem dX8_unpick_45 : decode cX8_unpick 45 = .ok (.aload_n 0, 1) := by decide +kernel
theorem dX8_unpick_46 : decode cX8_unpick 46 = .ok (.iload_n 1, 1) := by decide +kernel
theorem dX8_unpick_47 : decode cX8_unpick 47 = .ok (.bipush 7, 2) := by decide +kernel
theorem dX8_unpick_49 : decode cX8_unpick 49 = .ok (.iload_n 2, 1) := by decide +kernel
theorem dX8_unpick_50 : decode cX8_unpick 50 = .ok (.iconst 1, 1) := by decide +kernel
theorem dX8_unpick_51 : decode cX8_unpick 51 = .ok (.isub, 1) := by decide +kernel
theorem dX8_unpick_52 : decode cX8_unpick 52 = .ok (.invokevirtual 42, 3) := by decide +kernel
theorem dX8_unpick_55 : decode cX8_unpick 55 = .ok (.iconst 5, 1) := by decide +kernel
theorem dX8_unpick_56 : decode cX8_unpick 56 = .ok (.iconst 2, 1) := by decide +kernel
theorem dX8_unpick_57 : decode cX8_unpick 57 = .ok (.aload_n 0, 1) := by decide +kernel
theorem dX8_unpick_58 : decode cX8_unpick 58 = .ok (.iload_n 1, 1) := by decide +kernel
theorem dX8_unpick_59 : decode cX8_unpick 59 = .ok (.bipush 8, 2) := by decide +kernel
theorem dX8_unpick_61 : decode cX8_unpick 61 = .ok (.iconst 2, 1) := by decide +kernel
theorem dX8_unpick_62 : decode cX8_unpick 62 = .ok (.iload_n 2, 1) := by decide +kernel
theorem dX8_unpick_63 : decode cX8_unpick 63 = .ok (.imul, 1) := by decide +kernel
theorem dX8_unpick_64 : decode cX8_unpick 64 = .ok (.iadd, 1) := by decide +kernel
theorem dX8_unpick_65 : decode cX8_unpick 65 = .ok (.iconst 1, 1) := by decide +kernel
theorem dX8_unpick_66 : decode cX8_unpick 66 = .ok (.isub, 1) := by decide +kernel
theorem dX8_unpick_67 : decode cX8_unpick 67 = .ok (.invokevirtual 75, 3) := by decide +kernel
theorem dX8_unpick_70 : decode cX8_unpick 70 = .ok (.iconst 0, 1) := by decide +kernel
theorem dX8_unpick_71 : decode cX8_unpick 71 = .ok (.invokestatic 99, 3) := by decide +kernel
theorem dX8_unpick_74 : decode cX8_unpick 74 = .ok (.imul, 1) := by decide +kernel
theorem dX8_unpick_75 : decode cX8_unpick 75 = .ok (.iadd, 1) := by decide +kernel
theorem dX8_unpick_76 : decode cX8_unpick 76 = .ok (.istore_n 3, 1) := by decide +kernel
theorem dX8_unpick_77 : decode cX8_unpick 77 = .ok (.aload_n 0, 1) := by decide +kernel
theorem dX8_unpick_78 : decode cX8_unpick 78 = .ok (.getfield 7, 3) := by decide +kernel
theorem dX8_unpick_81 : decode cX8_unpick 81 = .ok (.iconst 4, 1) := by decide +kernel
theorem dX8_unpick_82 : decode cX8_unpick 82 = .ok (.dup2, 1) := by decide +kernel
theorem dX8_unpick_83 : decode cX8_unpick 83 = .ok (.iaload, 1) := by decide +kernel
theorem dX8_unpick_84 : decode cX8_unpick 84 = .ok (.iload_n 3, 1) := by decide +kernel
theorem dX8_unpick_85 : decode cX8_unpick 85 = .ok (.iadd, 1) := by decide +kernel
theorem dX8_unpick_86 : decode cX8_unpick 86 = .ok (.iastore, 1) := by decide +kernel
theorem dX8_unpick_87 : decode cX8_unpick 87 = .ok (.iload_n 3, 1) := by decide +kernel
theorem dX8_unpick_88 : decode cX8_unpick 88 = .ok (.ireturn, 1) := by decide +kernel
set_option maxRecDepth 20000 in
theorem ggX8_append_X8_in : GoodIn wsX8_append wsX8_in := goodIn_r _ [8] (by decide +kernel) (by decide +kernel)
set_option maxRecDepth 20000 in
theorem gX8_append_X8_in : GoodIn wsX8_append (va_wsS RX8 32 yX8_in wsX8_in) := goodIn_app (goodIn_of _ (by decide +kernel)) ggX8_append_X8_in
theorem dX8_append_0 : decode cX8_append 0 = .ok (.aload_n 0, 1) := by decide +kernel
theorem dX8_append_1 : decode cX8_append 1 = .ok (.iconst 0, 1) := by decide +kernel
theorem dX8_append_2 : decode cX8_append 2 = .ok (.putfield 22, 3) := by decide +kernel
theorem dX8_append_5 : decode cX8_append 5 = .ok (.iload_n 1, 1) := by decide +kernel
theorem dX8_append_6 : decode cX8_append 6 = .ok (.i2l, 1) := by decide +kernel
theorem dX8_append_7 : decode cX8_append 7 = .ok (.lconst 1, 1) := by decide +kernel
theorem dX8_append_8 : decode cX8_append 8 = .ok (.ldc2_w 102, 3) := by decide +kernel
theorem dX8_append_11 : decode cX8_append 11 = .ok (.invokestatic 32, 3) := by decide +kernel
theorem dX8_append_14 : decode cX8_append 14 = .ok (.ifCond .ne 7, 3) := by decide +kernel
theorem dX8_append_17 : decode cX8_append 17 = .ok (.sipush (-2001), 3) := by decide +kernel
theorem dX8_append_20 : decode cX8_append 20 = .ok (.ireturn, 1) := by decide +kernel
theorem dX8_append_21 : decode cX8_append 21 = .ok (.aload_n 0, 1) := by decide +kernel
theorem dX8_append_22 : decode cX8_append 22 = .ok (.getfield 104, 3) := by decide +kernel
theorem dX8_append_25 : decode cX8_append 25 = .ok (.bipush 120, 2) := by decide +kernel
theorem dX8_append_27 : decode cX8_append 27 = .ok (.if_icmp .ne 7, 3) := by decide +kernel
theorem dX8_append_30 : decode cX8_append 30 = .ok (.sipush (-2003), 3) := by decide +kernel
theorem dX8_append_33 : decode cX8_append 33 = .ok (.ireturn, 1) := by decide +kernel
theorem dX8_append_34 : decode cX8_append 34 = .ok (.aload_n 0, 1) := by decide +kernel
theorem dX8_append_35 : decode cX8_append 35 = .ok (.getfield 19, 3) := by decide +kernel
theorem dX8_append_38 : decode cX8_append 38 = .ok (.aload_n 0, 1) := by decide +kernel
theorem dX8_append_39 : decode cX8_append 39 = .ok (.getfield 104, 3) := by decide +kernel
theorem dX8_append_42 : decode cX8_append 42 = .ok (.iload_n 1, 1) := by decide +kernel
theorem dX8_append_43 : decode cX8_append 43 = .ok (.iastore, 1) := by decide +kernel
theorem dX8_append_44 : decode cX8_append 44 = .ok (.aload_n 0, 1) := by decide +kernel
theorem dX8_append_45 : decode cX8_append 45 = .ok (.dup, 1) := by decide +kernel
theorem dX8_append_46 : decode cX8_append 46 = .ok (.getfield 104, 3) := by decide +kernel
theorem dX8_append_49 : decode cX8_append 49 = .ok (.iconst 1, 1) := by decide +kernel
theorem dX8_append_50 : decode cX8_append 50 = .ok (.iadd, 1) := by decide +kernel
theorem dX8_append_51 : decode cX8_append 51 = .ok (.putfield 104, 3) := by decide +kernel
theorem dX8_append_54 : decode cX8_append 54 = .ok (.aload_n 0, 1) := by decide +kernel
theorem dX8_append_55 : decode cX8_append 55 = .ok (.getfield 104, 3) := by decide +kernel
theorem dX8_append_58 : decode cX8_append 58 = .ok (.ireturn, 1) := by decide +kernel
theorem dX8_clearText_0 : decode cX8_clearText 0 = .ok (.aload_n 0, 1) := by decide +kernel
theorem dX8_clearText_1 : decode cX8_clearText 1 = .ok (.iconst 0, 1) := by decide +kernel
theorem dX8_clearText_2 : decode cX8_clearText 2 = .ok (.putfield 22, 3) := by decide +kernel
theorem dX8_clearText_5 : decode cX8_clearText 5 = .ok (.aload_n 0, 1) := by decide +kernel
theorem dX8_clearText_6 : decode cX8_clearText 6 = .ok (.getfield 104, 3) := by decide +kernel
theorem dX8_clearText_9 : decode cX8_clearText 9 = .ok (.istore_n 1, 1) := by decide +kernel
theorem dX8_clearText_10 : decode cX8_clearText 10 = .ok (.aload_n 0, 1) := by decide +kernel
theorem dX8_clearText_11 : decode cX8_clearText 11 = .ok (.iconst 0, 1) := by decide +kernel
theorem dX8_clearText_12 : decode cX8_clearText 12 = .ok (.putfield 104, 3) := by decide +kernel
theorem dX8_clearText_15 : decode cX8_clearText 15 = .ok (.iload_n 1, 1) := by decide +kernel
theorem dX8_clearText_16 : decode cX8_clearText 16 = .ok (.ireturn, 1) := by decide +kernel
theorem dX8_here_0 : decode cX8_here 0 = .ok (.aload_n 0, 1) := by decide +kernel
theorem dX8_here_1 : decode cX8_here 1 = .ok (.getfield 107, 3) := by decide +kernel
theorem dX8_here_4 : decode cX8_here 4 = .ok (.aload_n 0, 1) := by decide +kernel
theorem dX8_here_5 : decode cX8_here 5 = .ok (.getfield 104, 3) := by decide +kernel
theorem dX8_here_8 : decode cX8_here 8 = .ok (.if_icmp .ge 15, 3) := by decide +kernel
theorem dX8_here_11 : decode cX8_here 11 = .ok (.aload_n 0, 1) := by decide +kernel
theorem dX8_here_12 : decode cX8_here 12 = .ok (.getfield 19, 3) := by decide +kernel
theorem dX8_here_15 : decode cX8_here 15 = .ok (.aload_n 0, 1) := by decide +kernel
theorem dX8_here_16 : decode cX8_here 16 = .ok (.getfield 107, 3) := by decide +kernel
theorem dX8_here_19 : decode cX8_here 19 = .ok (.iaload, 1) := by decide +kernel
theorem dX8_here_20 : decode cX8_here 20 = .ok (.goto 4, 3) := by decide +kernel
theorem dX8_here_23 : decode cX8_here 23 = .ok (.iconst (-1), 1) := by decide +kernel
theorem dX8_here_24 : decode cX8_here 24 = .ok (.ireturn, 1) := by decide +kernel
set_option maxRecDepth 20000 in
theorem ggX8_read_X8_here : GoodIn wsX8_read wsX8_here := goodIn_r _ [17, 1, 18, 12, 22, 23, 24, 25, 26, 27, 28, 29, 30, 31, 32, 33] (by decide +kernel) (by decide +kernel)
set_option maxRecDepth 20000 in
theorem gX8_read_X8_here : GoodIn wsX8_read (wsV RX8 110 RX8 yX8_here wsX8_here) := goodIn_app (goodIn_of _ (by decide +kernel)) ggX8_read_X8_here
set_option maxRecDepth 20000 in
theorem ggX8_read_X8_in : GoodIn wsX8_read wsX8_in := goodIn_r _ [21] (by decide +kernel) (by decide +kernel)
set_option maxRecDepth 20000 in
theorem gX8_read_X8_in : GoodIn wsX8_read (va_wsS RX8 32 yX8_in wsX8_in) := goodIn_app (goodIn_of _ (by decide +kernel)) ggX8_read_X8_in
theorem dX8_read_0 : decode cX8_read 0 = .ok (.aload_n 0, 1) := by decide +kernel
theorem dX8_read_1 : decode cX8_read 1 = .ok (.invokevirtual 110, 3) := by decide +kernel
theorem dX8_read_4 : decode cX8_read 4 = .ok (.bipush 32, 2) := by decide +kernel
theorem dX8_read_6 : decode cX8_read 6 = .ok (.if_icmp .ne 16, 3) := by decide +kernel
theorem dX8_read_9 : decode cX8_read 9 = .ok (.aload_n 0, 1) := by decide +kernel
theorem dX8_read_10 : decode cX8_read 10 = .ok (.dup, 1) := by decide +kernel
theorem dX8_read_11 : decode cX8_read 11 = .ok (.getfield 107, 3) := by decide +kernel
theorem dX8_read_14 : decode cX8_read 14 = .ok (.iconst 1, 1) := by decide +kernel
theorem dX8_read_15 : decode cX8_read 15 = .ok (.iadd, 1) := by decide +kernel
theorem dX8_read_16 : decode cX8_read 16 = .ok (.putfield 107, 3) := by decide +kernel
theorem dX8_read_19 : decode cX8_read 19 = .ok (.goto (-19), 3) := by decide +kernel
theorem dX8_read_22 : decode cX8_read 22 = .ok (.aload_n 0, 1) := by decide +kernel
theorem dX8_read_23 : decode cX8_read 23 = .ok (.aload_n 0, 1) := by decide +kernel
theorem dX8_read_24 : decode cX8_read 24 = .ok (.getfield 107, 3) := by decide +kernel
theorem dX8_read_27 : decode cX8_read 27 = .ok (.putfield 114, 3) := by decide +kernel
theorem dX8_read_30 : decode cX8_read 30 = .ok (.aload_n 0, 1) := by decide +kernel
theorem dX8_read_31 : decode cX8_read 31 = .ok (.lconst 0, 1) := by decide +kernel
theorem dX8_read_32 : decode cX8_read 32 = .ok (.putfield 117, 3) := by decide +kernel
theorem dX8_read_35 : decode cX8_read 35 = .ok (.aload_n 0, 1) := by decide +kernel
theorem dX8_read_36 : decode cX8_read 36 = .ok (.aload_n 0, 1) := by decide +kernel
theorem dX8_read_37 : decode cX8_read 37 = .ok (.invokevirtual 110, 3) := by decide +kernel
theorem dX8_read_40 : decode cX8_read 40 = .ok (.ifCond .ge 7, 3) := by decide +kernel
theorem dX8_read_43 : decode cX8_read 43 = .ok (.iconst 4, 1) := by decide +kernel
theorem dX8_read_44 : decode cX8_read 44 = .ok (.goto 17, 3) := by decide +kernel
theorem dX8_read_47 : decode cX8_read 47 = .ok (.aload_n 0, 1) := by decide +kernel
theorem dX8_read_48 : decode cX8_read 48 = .ok (.invokevirtual 110, 3) := by decide +kernel
theorem dX8_read_51 : decode cX8_read 51 = .ok (.bipush 59, 2) := by decide +kernel
theorem dX8_read_53 : decode cX8_read 53 = .ok (.if_icmp .ne 7, 3) := by decide +kernel
theorem dX8_read_56 : decode cX8_read 56 = .ok (.iconst 2, 1) := by decide +kernel
theorem dX8_read_57 : decode cX8_read 57 = .ok (.goto 4, 3) := by decide +kernel
theorem dX8_read_60 : decode cX8_read 60 = .ok (.iconst 3, 1) := by decide +kernel
theorem dX8_read_61 : decode cX8_read 61 = .ok (.putfield 121, 3) := by decide +kernel
theorem dX8_read_64 : decode cX8_read 64 = .ok (.aload_n 0, 1) := by decide +kernel
theorem dX8_read_65 : decode cX8_read 65 = .ok (.invokevirtual 110, 3) := by decide +kernel
theorem dX8_read_68 : decode cX8_read 68 = .ok (.i2l, 1) := by decide +kernel
theorem dX8_read_69 : decode cX8_read 69 = .ok (.ldc2_w 124, 3) := by decide +kernel
theorem dX8_read_72 : decode cX8_read 72 = .ok (.ldc2_w 126, 3) := by decide +kernel
theorem dX8_read_75 : decode cX8_read 75 = .ok (.invokestatic 32, 3) := by decide +kernel
theorem dX8_read_78 : decode cX8_read 78 = .ok (.ifCond .eq 80, 3) := by decide +kernel
theorem dX8_read_81 : decode cX8_read 81 = .ok (.aload_n 0, 1) := by decide +kernel
theorem dX8_read_82 : decode cX8_read 82 = .ok (.iconst 0, 1) := by decide +kernel
theorem dX8_read_83 : decode cX8_read 83 = .ok (.putfield 121, 3) := by decide +kernel
theorem dX8_read_86 : decode cX8_read 86 = .ok (.aload_n 0, 1) := by decide +kernel
theorem dX8_read_87 : decode cX8_read 87 = .ok (.invokevirtual 110, 3) := by decide +kernel
theorem dX8_read_90 : decode cX8_read 90 = .ok (.i2l, 1) := by decide +kernel
theorem dX8_read_91 : decode cX8_read 91 = .ok (.ldc2_w 124, 3) := by decide +kernel
theorem dX8_read_94 : decode cX8_read 94 = .ok (.ldc2_w 126, 3) := by decide +kernel
theorem dX8_read_97 : decode cX8_read 97 = .ok (.invokestatic 32, 3) := by decide +kernel
theorem dX8_read_100 : decode cX8_read 100 = .ok (.ifCond .eq 201, 3) := by decide +kernel
theorem dX8_read_103 : decode cX8_read 103 = .ok (.aload_n 0, 1) := by decide +kernel
theorem dX8_read_104 : decode cX8_read 104 = .ok (.aload_n 0, 1) := by decide +kernel
theorem dX8_read_105 : decode cX8_read 105 = .ok (.getfield 107, 3) := by decide +kernel
theorem dX8_read_108 : decode cX8_read 108 = .ok (.aload_n 0, 1) := by decide +kernel
theorem dX8_read_109 : decode cX8_read 109 = .ok (.getfield 114, 3) := by decide +kernel
theorem dX8_read_112 : decode cX8_read 112 = .ok (.isub, 1) := by decide +kernel
theorem dX8_read_113 : decode cX8_read 113 = .ok (.bipush 8, 2) := by decide +kernel
theorem dX8_read_115 : decode cX8_read 115 = .ok (.if_icmp .ge 26, 3) := by decide +kernel
theorem dX8_read_118 : decode cX8_read 118 = .ok (.ldc2_w 128, 3) := by decide +kernel
theorem dX8_read_121 : decode cX8_read 121 = .ok (.aload_n 0, 1) := by decide +kernel
theorem dX8_read_122 : decode cX8_read 122 = .ok (.getfield 117, 3) := by decide +kernel
theorem dX8_read_125 : decode cX8_read 125 = .ok (.lmul, 1) := by decide +kernel
theorem dX8_read_126 : decode cX8_read 126 = .ok (.aload_n 0, 1) := by decide +kernel
theorem dX8_read_127 : decode cX8_read 127 = .ok (.invokevirtual 110, 3) := by decide +kernel
theorem dX8_read_130 : decode cX8_read 130 = .ok (.i2l, 1) := by decide +kernel
theorem dX8_read_131 : decode cX8_read 131 = .ok (.ladd, 1) := by decide +kernel
theorem dX8_read_132 : decode cX8_read 132 = .ok (.ldc2_w 124, 3) := by decide +kernel
theorem dX8_read_135 : decode cX8_read 135 = .ok (.lsub, 1) := by decide +kernel
theorem dX8_read_136 : decode cX8_read 136 = .ok (.lconst 1, 1) := by decide +kernel
theorem dX8_read_137 : decode cX8_read 137 = .ok (.ladd, 1) := by decide +kernel
theorem dX8_read_138 : decode cX8_read 138 = .ok (.goto 4, 3) := by decide +kernel
theorem dX8_read_141 : decode cX8_read 141 = .ok (.lconst 0, 1) := by decide +kernel
theorem dX8_read_142 : decode cX8_read 142 = .ok (.putfield 117, 3) := by decide +kernel
theorem dX8_read_145 : decode cX8_read 145 = .ok (.aload_n 0, 1) := by decide +kernel
theorem dX8_read_146 : decode cX8_read 146 = .ok (.dup, 1) := by decide +kernel
theorem dX8_read_147 : decode cX8_read 147 = .ok (.getfield 107, 3) := by decide +kernel
theorem dX8_read_150 : decode cX8_read 150 = .ok (.iconst 1, 1) := by decide +kernel
theorem dX8_read_151 : decode cX8_read 151 = .ok (.iadd, 1) := by decide +kernel
theorem dX8_read_152 : decode cX8_read 152 = .ok (.putfield 107, 3) := by decide +kernel
theorem dX8_read_155 : decode cX8_read 155 = .ok (.goto (-69), 3) := by decide +kernel
theorem dX8_read_158 : decode cX8_read 158 = .ok (.aload_n 0, 1) := by decide +kernel
theorem dX8_read_159 : decode cX8_read 159 = .ok (.invokevirtual 110, 3) := by decide +kernel
theorem dX8_read_162 : decode cX8_read 162 = .ok (.i2l, 1) := by decide +kernel
theorem dX8_read_163 : decode cX8_read 163 = .ok (.ldc2_w 130, 3) := by decide +kernel
theorem dX8_read_166 : decode cX8_read 166 = .ok (.ldc2_w 132, 3) := by decide +kernel
theorem dX8_read_169 : decode cX8_read 169 = .ok (.invokestatic 32, 3) := by decide +kernel
theorem dX8_read_172 : decode cX8_read 172 = .ok (.ifCond .eq 112, 3) := by decide +kernel
theorem dX8_read_175 : decode cX8_read 175 = .ok (.aload_n 0, 1) := by decide +kernel
theorem dX8_read_176 : decode cX8_read 176 = .ok (.invokevirtual 110, 3) := by decide +kernel
theorem dX8_read_179 : decode cX8_read 179 = .ok (.i2l, 1) := by decide +kernel
theorem dX8_read_180 : decode cX8_read 180 = .ok (.ldc2_w 130, 3) := by decide +kernel
theorem dX8_read_183 : decode cX8_read 183 = .ok (.ldc2_w 132, 3) := by decide +kernel
theorem dX8_read_186 : decode cX8_read 186 = .ok (.invokestatic 32, 3) := by decide +kernel
theorem dX8_read_189 : decode cX8_read 189 = .ok (.ifCond .eq 56, 3) := by decide +kernel
theorem dX8_read_192 : decode cX8_read 192 = .ok (.aload_n 0, 1) := by decide +kernel
theorem dX8_read_193 : decode cX8_read 193 = .ok (.aload_n 0, 1) := by decide +kernel
theorem dX8_read_194 : decode cX8_read 194 = .ok (.getfield 117, 3) := by decide +kernel
theorem dX8_read_197 : decode cX8_read 197 = .ok (.ldc2_w 134, 3) := by decide +kernel
theorem dX8_read_200 : decode cX8_read 200 = .ok (.lcmp, 1) := by decide +kernel
theorem dX8_read_201 : decode cX8_read 201 = .ok (.ifCond .ge 24, 3) := by decide +kernel
theorem dX8_read_204 : decode cX8_read 204 = .ok (.ldc2_w 90, 3) := by decide +kernel
theorem dX8_read_207 : decode cX8_read 207 = .ok (.aload_n 0, 1) := by decide +kernel
theorem dX8_read_208 : decode cX8_read 208 = .ok (.getfield 117, 3) := by decide +kernel
theorem dX8_read_211 : decode cX8_read 211 = .ok (.lmul, 1) := by decide +kernel
theorem dX8_read_212 : decode cX8_read 212 = .ok (.aload_n 0, 1) := by decide +kernel
theorem dX8_read_213 : decode cX8_read 213 = .ok (.invokevirtual 110, 3) := by decide +kernel
theorem dX8_read_216 : decode cX8_read 216 = .ok (.i2l, 1) := by decide +kernel
theorem dX8_read_217 : decode cX8_read 217 = .ok (.ladd, 1) := by decide +kernel
theorem dX8_read_218 : decode cX8_read 218 = .ok (.ldc2_w 130, 3) := by decide +kernel
theorem dX8_read_221 : decode cX8_read 221 = .ok (.lsub, 1) := by decide +kernel
theorem dX8_read_222 : decode cX8_read 222 = .ok (.goto 7, 3) := by decide +kernel
theorem dX8_read_225 : decode cX8_read 225 = .ok (.aload_n 0, 1) := by decide +kernel
theorem dX8_read_226 : decode cX8_read 226 = .ok (.getfield 117, 3) := by decide +kernel
theorem dX8_read_229 : decode cX8_read 229 = .ok (.putfield 117, 3) := by decide +kernel
theorem dX8_read_232 : decode cX8_read 232 = .ok (.aload_n 0, 1) := by decide +kernel
theorem dX8_read_233 : decode cX8_read 233 = .ok (.dup, 1) := by decide +kernel
theorem dX8_read_234 : decode cX8_read 234 = .ok (.getfield 107, 3) := by decide +kernel
theorem dX8_read_237 : decode cX8_read 237 = .ok (.iconst 1, 1) := by decide +kernel
theorem dX8_read_238 : decode cX8_read 238 = .ok (.iadd, 1) := by decide +kernel
theorem dX8_read_239 : decode cX8_read 239 = .ok (.putfield 107, 3) := by decide +kernel
theorem dX8_read_242 : decode cX8_read 242 = .ok (.goto (-67), 3) := by decide +kernel
theorem dX8_read_245 : decode cX8_read 245 = .ok (.aload_n 0, 1) := by decide +kernel
theorem dX8_read_246 : decode cX8_read 246 = .ok (.aload_n 0, 1) := by decide +kernel
theorem dX8_read_247 : decode cX8_read 247 = .ok (.getfield 19, 3) := by decide +kernel
theorem dX8_read_250 : decode cX8_read 250 = .ok (.aload_n 0, 1) := by decide +kernel
theorem dX8_read_251 : decode cX8_read 251 = .ok (.getfield 114, 3) := by decide +kernel
theorem dX8_read_254 : decode cX8_read 254 = .ok (.iaload, 1) := by decide +kernel
theorem dX8_read_255 : decode cX8_read 255 = .ok (.bipush 48, 2) := by decide +kernel
theorem dX8_read_257 : decode cX8_read 257 = .ok (.if_icmp .ne 16, 3) := by decide +kernel
theorem dX8_read_260 : decode cX8_read 260 = .ok (.aload_n 0, 1) := by decide +kernel
theorem dX8_read_261 : decode cX8_read 261 = .ok (.getfield 107, 3) := by decide +kernel
theorem dX8_read_264 : decode cX8_read 264 = .ok (.aload_n 0, 1) := by decide +kernel
theorem dX8_read_265 : decode cX8_read 265 = .ok (.getfield 114, 3) := by decide +kernel
theorem dX8_read_268 : decode cX8_read 268 = .ok (.iconst 1, 1) := by decide +kernel
theorem dX8_read_269 : decode cX8_read 269 = .ok (.iadd, 1) := by decide +kernel
theorem dX8_read_270 : decode cX8_read 270 = .ok (.if_icmp .ne 7, 3) := by decide +kernel
theorem dX8_read_273 : decode cX8_read 273 = .ok (.iconst 1, 1) := by decide +kernel
theorem dX8_read_274 : decode cX8_read 274 = .ok (.goto 4, 3) := by decide +kernel
theorem dX8_read_277 : decode cX8_read 277 = .ok (.iconst 3, 1) := by decide +kernel
theorem dX8_read_278 : decode cX8_read 278 = .ok (.putfield 121, 3) := by decide +kernel
theorem dX8_read_281 : decode cX8_read 281 = .ok (.goto 20, 3) := by decide +kernel
theorem dX8_read_284 : decode cX8_read 284 = .ok (.aload_n 0, 1) := by decide +kernel
theorem dX8_read_285 : decode cX8_read 285 = .ok (.invokevirtual 110, 3) := by decide +kernel
theorem dX8_read_288 : decode cX8_read 288 = .ok (.ifCond .lt 13, 3) := by decide +kernel
theorem dX8_read_291 : decode cX8_read 291 = .ok (.aload_n 0, 1) := by decide +kernel
theorem dX8_read_292 : decode cX8_read 292 = .ok (.dup, 1) := by decide +kernel
theorem dX8_read_293 : decode cX8_read 293 = .ok (.getfield 107, 3) := by decide +kernel
theorem dX8_read_296 : decode cX8_read 296 = .ok (.iconst 1, 1) := by decide +kernel
theorem dX8_read_297 : decode cX8_read 297 = .ok (.iadd, 1) := by decide +kernel
theorem dX8_read_298 : decode cX8_read 298 = .ok (.putfield 107, 3) := by decide +kernel
theorem dX8_read_301 : decode cX8_read 301 = .ok (.return_, 1) := by decide +kernel
set_option maxRecDepth 20000 in
theorem ggX8_take_X8_read : GoodIn wsX8_take wsX8_read := goodIn_r _ [6, 7, 8, 9, 10, 11, 12, 13, 14, 15, 16, 17, 18, 19, 20, 21, 5, 22, 23, 24, 25, 26, 27, 28, 29, 30, 31, 32, 33, 34, 35, 36, 37, 38] (by decide +kernel) (by decide +kernel)
set_option maxRecDepth 20000 in
theorem gX8_take_X8_read : GoodIn wsX8_take (wsV RX8 140 RX8 yX8_read wsX8_read) := goodIn_app (goodIn_of _ (by decide +kernel)) ggX8_take_X8_read
theorem dX8_take_0 : decode cX8_take 0 = .ok (.aload_n 0, 1) := by decide +kernel
theorem dX8_take_1 : decode cX8_take 1 = .ok (.aload_n 0, 1) := by decide +kernel
theorem dX8_take_2 : decode cX8_take 2 = .ok (.getfield 136, 3) := by decide +kernel
theorem dX8_take_5 : decode cX8_take 5 = .ok (.ifCond .ne 7, 3) := by decide +kernel
theorem dX8_take_8 : decode cX8_take 8 = .ok (.iload_n 1, 1) := by decide +kernel
theorem dX8_take_9 : decode cX8_take 9 = .ok (.ifCond .ne 7, 3) := by decide +kernel
theorem dX8_take_12 : decode cX8_take 12 = .ok (.iconst 1, 1) := by decide +kernel
theorem dX8_take_13 : decode cX8_take 13 = .ok (.goto 4, 3) := by decide +kernel
theorem dX8_take_16 : decode cX8_take 16 = .ok (.iconst 0, 1) := by decide +kernel
theorem dX8_take_17 : decode cX8_take 17 = .ok (.putfield 136, 3) := by decide +kernel
theorem dX8_take_20 : decode cX8_take 20 = .ok (.aload_n 0, 1) := by decide +kernel
theorem dX8_take_21 : decode cX8_take 21 = .ok (.getfield 136, 3) := by decide +kernel
theorem dX8_take_24 : decode cX8_take 24 = .ok (.ifCond .ne 7, 3) := by decide +kernel
theorem dX8_take_27 : decode cX8_take 27 = .ok (.aload_n 0, 1) := by decide +kernel
theorem dX8_take_28 : decode cX8_take 28 = .ok (.invokevirtual 140, 3) := by decide +kernel
theorem dX8_take_31 : decode cX8_take 31 = .ok (.return_, 1) := by decide +kernel
set_option maxRecDepth 20000 in
theorem ggX8_takeNumber_X8_in : GoodIn wsX8_takeNumber wsX8_in := goodIn_r _ [6] (by decide +kernel) (by decide +kernel)
set_option maxRecDepth 20000 in
theorem gX8_takeNumber_X8_in : GoodIn wsX8_takeNumber (va_wsS RX8 32 yX8_in wsX8_in) := goodIn_app (goodIn_of _ (by decide +kernel)) ggX8_takeNumber_X8_in
set_option maxRecDepth 20000 in
theorem ggX8_takeNumber_X8_take : GoodIn wsX8_takeNumber wsX8_take := goodIn_r _ [10, 11, 12, 13, 14, 5, 15, 16, 17, 1, 2, 18, 19, 20, 21, 22, 23, 24, 25, 26, 27, 28, 29, 30, 3, 4, 6, 31, 32, 33, 34, 35, 36, 37, 38, 39, 40, 41, 42] (by decide +kernel) (by decide +kernel)
set_option maxRecDepth 20000 in
theorem gX8_takeNumber_X8_take : GoodIn wsX8_takeNumber (wsV RX8 143 RX8 yX8_take wsX8_take) := goodIn_app (goodIn_of _ (by decide +kernel)) ggX8_takeNumber_X8_take
theorem dX8_takeNumber_0 : decode cX8_takeNumber 0 = .ok (.aload_n 0, 1) := by decide +kernel
theorem dX8_takeNumber_1 : decode cX8_takeNumber 1 = .ok (.getfield 117, 3) := by decide +kernel
theorem dX8_takeNumber_4 : decode cX8_takeNumber 4 = .ok (.l2i, 1) := by decide +kernel
theorem dX8_takeNumber_5 : decode cX8_takeNumber 5 = .ok (.istore_n 3, 1) := by decide +kernel
theorem dX8_takeNumber_6 : decode cX8_takeNumber 6 = .ok (.aload_n 0, 1) := by decide +kernel
theorem dX8_takeNumber_7 : decode cX8_takeNumber 7 = .ok (.aload_n 0, 1) := by decide +kernel
theorem dX8_takeNumber_8 : decode cX8_takeNumber 8 = .ok (.getfield 121, 3) := by decide +kernel
theorem dX8_takeNumber_11 : decode cX8_takeNumber 11 = .ok (.iconst 1, 1) := by decide +kernel
theorem dX8_takeNumber_12 : decode cX8_takeNumber 12 = .ok (.if_icmp .ne 21, 3) := by decide +kernel
theorem dX8_takeNumber_15 : decode cX8_takeNumber 15 = .ok (.aload_n 0, 1) := by decide +kernel
theorem dX8_takeNumber_16 : decode cX8_takeNumber 16 = .ok (.getfield 117, 3) := by decide +kernel
theorem dX8_takeNumber_19 : decode cX8_takeNumber 19 = .ok (.iload_n 1, 1) := by decide +kernel
theorem dX8_takeNumber_20 : decode cX8_takeNumber 20 = .ok (.i2l, 1) := by decide +kernel
theorem dX8_takeNumber_21 : decode cX8_takeNumber 21 = .ok (.iload_n 2, 1) := by decide +kernel
theorem dX8_takeNumber_22 : decode cX8_takeNumber 22 = .ok (.i2l, 1) := by decide +kernel
theorem dX8_takeNumber_23 : decode cX8_takeNumber 23 = .ok (.invokestatic 32, 3) := by decide +kernel
theorem dX8_takeNumber_26 : decode cX8_takeNumber 26 = .ok (.ifCond .eq 7, 3) := by decide +kernel
theorem dX8_takeNumber_29 : decode cX8_takeNumber 29 = .ok (.iconst 1, 1) := by decide +kernel
theorem dX8_takeNumber_30 : decode cX8_takeNumber 30 = .ok (.goto 4, 3) := by decide +kernel
theorem dX8_takeNumber_33 : decode cX8_takeNumber 33 = .ok (.iconst 0, 1) := by decide +kernel
theorem dX8_takeNumber_34 : decode cX8_takeNumber 34 = .ok (.invokevirtual 143, 3) := by decide +kernel
theorem dX8_takeNumber_37 : decode cX8_takeNumber 37 = .ok (.iload_n 3, 1) := by decide +kernel
theorem dX8_takeNumber_38 : decode cX8_takeNumber 38 = .ok (.ireturn, 1) := by decide +kernel
theorem dX8_isWord_0 : decode cX8_isWord 0 = .ok (.aload_n 0, 1) := by decide +kernel
theorem dX8_isWord_1 : decode cX8_isWord 1 = .ok (.getfield 121, 3) := by decide +kernel
theorem dX8_isWord_4 : decode cX8_isWord 4 = .ok (.ifCond .ne 16, 3) := by decide +kernel
theorem dX8_isWord_7 : decode cX8_isWord 7 = .ok (.aload_n 0, 1) := by decide +kernel
theorem dX8_isWord_8 : decode cX8_isWord 8 = .ok (.getfield 117, 3) := by decide +kernel
theorem dX8_isWord_11 : decode cX8_isWord 11 = .ok (.lload_n 1, 1) := by decide +kernel
theorem dX8_isWord_12 : decode cX8_isWord 12 = .ok (.lcmp, 1) := by decide +kernel
theorem dX8_isWord_13 : decode cX8_isWord 13 = .ok (.ifCond .ne 7, 3) := by decide +kernel
theorem dX8_isWord_16 : decode cX8_isWord 16 = .ok (.iconst 1, 1) := by decide +kernel
theorem dX8_isWord_17 : decode cX8_isWord 17 = .ok (.goto 4, 3) := by decide +kernel
theorem dX8_isWord_20 : decode cX8_isWord 20 = .ok (.iconst 0, 1) := by decide +kernel
theorem dX8_isWord_21 : decode cX8_isWord 21 = .ok (.ireturn, 1) := by decide +kernel
set_option maxRecDepth 20000 in
theorem ggX8_readItem_X8_isWord : GoodIn wsX8_readItem wsX8_isWord := goodIn_r _ [11, 5, 12, 55, 56, 57, 58, 59, 60, 61, 62, 63, 64, 65, 66] (by decide +kernel) (by decide +kernel)
set_option maxRecDepth 20000 in
theorem gX8_readItem_X8_isWord : GoodIn wsX8_readItem (wsV RX8 149 RX8 yX8_isWord wsX8_isWord) := goodIn_app (goodIn_of _ (by decide +kernel)) ggX8_readItem_X8_isWord
set_option maxRecDepth 20000 in
theorem ggX8_readItem_X8_take : GoodIn wsX8_readItem wsX8_take := goodIn_r _ [16, 6, 17, 18, 19, 10, 20, 21, 22, 12, 5, 23, 24, 25, 26, 27, 28, 29, 30, 31, 32, 33, 34, 35, 36, 37, 38, 55, 56, 57, 58, 59, 60, 61, 62, 63, 64, 65, 66] (by decide +kernel) (by decide +kernel)
set_option maxRecDepth 20000 in
theorem gX8_readItem_X8_take : GoodIn wsX8_readItem (wsV RX8 143 RX8 yX8_take wsX8_take) := goodIn_app (goodIn_of _ (by decide +kernel)) ggX8_readItem_X8_take
set_option maxRecDepth 20000 in
theorem ggX8_readItem_X8_takeNumber : GoodIn wsX8_readItem wsX8_takeNumber := goodIn_r _ [42, 12, 5, 36, 37, 10, 38, 13, 14, 15, 16, 6, 17, 18, 19, 20, 21, 22, 23, 24, 25, 26, 27, 28, 29, 30, 31, 32, 33, 34, 35, 55, 56, 57, 58, 59, 60, 61, 62, 63, 64, 65, 66] (by decide +kernel) (by decide +kernel)
set_option maxRecDepth 20000 in
theorem gX8_readItem_X8_takeNumber : GoodIn wsX8_readItem (wsV RX8 155 RX8 yX8_takeNumber wsX8_takeNumber) := goodIn_app (goodIn_of _ (by decide +kernel)) ggX8_readItem_X8_takeNumber
set_option maxRecDepth 20000 in
theorem ggX8_readItem_X8_makeCostume : GoodIn wsX8_readItem wsX8_makeCostume := goodIn_r _ [46, 2, 47, 48, 49, 10, 50, 55, 56, 57, 58, 59, 60, 61, 62, 63, 64, 65, 66] (by decide +kernel) (by decide +kernel)
set_option maxRecDepth 20000 in
theorem gX8_readItem_X8_makeCostume : GoodIn wsX8_readItem (wsV RX8 54 RX8 yX8_makeCostume wsX8_makeCostume) := goodIn_app (goodIn_of _ (by decide +kernel)) ggX8_readItem_X8_makeCostume
set_option maxRecDepth 20000 in
theorem ggX8_readItem_X8_makeActor : GoodIn wsX8_readItem wsX8_makeActor := goodIn_r _ [54, 2, 55, 56, 57, 58, 59, 60, 61, 62, 63, 64, 65, 66] (by decide +kernel) (by decide +kernel)
set_option maxRecDepth 20000 in
theorem gX8_readItem_X8_makeActor : GoodIn wsX8_readItem (wsV RX8 65 RX8 yX8_makeActor wsX8_makeActor) := goodIn_app (goodIn_of _ (by decide +kernel)) ggX8_readItem_X8_makeActor
theorem dX8_readItem_0 : decode cX8_readItem 0 = .ok (.aload_n 0, 1) := by decide +kernel
theorem dX8_readItem_1 : decode cX8_readItem 1 = .ok (.ldc2_w 147, 3) := by decide +kernel
theorem dX8_readItem_4 : decode cX8_readItem 4 = .ok (.invokevirtual 149, 3) := by decide +kernel
theorem dX8_readItem_7 : decode cX8_readItem 7 = .ok (.istore_n 1, 1) := by decide +kernel
theorem dX8_readItem_8 : decode cX8_readItem 8 = .ok (.aload_n 0, 1) := by decide +kernel
theorem dX8_readItem_9 : decode cX8_readItem 9 = .ok (.iload_n 1, 1) := by decide +kernel
theorem dX8_readItem_10 : decode cX8_readItem 10 = .ok (.ifCond .eq 14, 3) := by decide +kernel
theorem dX8_readItem_13 : decode cX8_readItem 13 = .ok (.aload_n 0, 1) := by decide +kernel
theorem dX8_readItem_14 : decode cX8_readItem 14 = .ok (.getfield 7, 3) := by decide +kernel
theorem dX8_readItem_17 : decode cX8_readItem 17 = .ok (.iconst 0, 1) := by decide +kernel
theorem dX8_readItem_18 : decode cX8_readItem 18 = .ok (.iaload, 1) := by decide +kernel
theorem dX8_readItem_19 : decode cX8_readItem 19 = .ok (.bipush 16, 2) := by decide +kernel
theorem dX8_readItem_21 : decode cX8_readItem 21 = .ok (.if_icmp .lt 24, 3) := by decide +kernel
theorem dX8_readItem_24 : decode cX8_readItem 24 = .ok (.aload_n 0, 1) := by decide +kernel
theorem dX8_readItem_25 : decode cX8_readItem 25 = .ok (.ldc2_w 153, 3) := by decide +kernel
theorem dX8_readItem_28 : decode cX8_readItem 28 = .ok (.invokevirtual 149, 3) := by decide +kernel
theorem dX8_readItem_31 : decode cX8_readItem 31 = .ok (.ifCond .eq 18, 3) := by decide +kernel
theorem dX8_readItem_34 : decode cX8_readItem 34 = .ok (.aload_n 0, 1) := by decide +kernel
theorem dX8_readItem_35 : decode cX8_readItem 35 = .ok (.getfield 7, 3) := by decide +kernel
theorem dX8_readItem_38 : decode cX8_readItem 38 = .ok (.iconst 1, 1) := by decide +kernel
theorem dX8_readItem_39 : decode cX8_readItem 39 = .ok (.iaload, 1) := by decide +kernel
theorem dX8_readItem_40 : decode cX8_readItem 40 = .ok (.bipush 8, 2) := by decide +kernel
theorem dX8_readItem_42 : decode cX8_readItem 42 = .ok (.if_icmp .ge 7, 3) := by decide +kernel
theorem dX8_readItem_45 : decode cX8_readItem 45 = .ok (.iconst 1, 1) := by decide +kernel
theorem dX8_readItem_46 : decode cX8_readItem 46 = .ok (.goto 4, 3) := by decide +kernel
theorem dX8_readItem_49 : decode cX8_readItem 49 = .ok (.iconst 0, 1) := by decide +kernel
theorem dX8_readItem_50 : decode cX8_readItem 50 = .ok (.invokevirtual 143, 3) := by decide +kernel
theorem dX8_readItem_53 : decode cX8_readItem 53 = .ok (.aload_n 0, 1) := by decide +kernel
theorem dX8_readItem_54 : decode cX8_readItem 54 = .ok (.bipush 40, 2) := by decide +kernel
theorem dX8_readItem_56 : decode cX8_readItem 56 = .ok (.sipush 200, 3) := by decide +kernel
theorem dX8_readItem_59 : decode cX8_readItem 59 = .ok (.invokevirtual 155, 3) := by decide +kernel
theorem dX8_readItem_62 : decode cX8_readItem 62 = .ok (.istore_n 2, 1) := by decide +kernel
theorem dX8_readItem_63 : decode cX8_readItem 63 = .ok (.aload_n 0, 1) := by decide +kernel
theorem dX8_readItem_64 : decode cX8_readItem 64 = .ok (.bipush 40, 2) := by decide +kernel
theorem dX8_readItem_66 : decode cX8_readItem 66 = .ok (.sipush 200, 3) := by decide +kernel
theorem dX8_readItem_69 : decode cX8_readItem 69 = .ok (.invokevirtual 155, 3) := by decide +kernel
theorem dX8_readItem_72 : decode cX8_readItem 72 = .ok (.istore_n 3, 1) := by decide +kernel
theorem dX8_readItem_73 : decode cX8_readItem 73 = .ok (.aload_n 0, 1) := by decide +kernel
theorem dX8_readItem_74 : decode cX8_readItem 74 = .ok (.bipush 40, 2) := by decide +kernel
theorem dX8_readItem_76 : decode cX8_readItem 76 = .ok (.sipush 200, 3) := by decide +kernel
theorem dX8_readItem_79 : decode cX8_readItem 79 = .ok (.invokevirtual 155, 3) := by decide +kernel
theorem dX8_readItem_82 : decode cX8_readItem 82 = .ok (.istore 4, 2) := by decide +kernel
theorem dX8_readItem_84 : decode cX8_readItem 84 = .ok (.iload_n 1, 1) := by decide +kernel
theorem dX8_readItem_85 : decode cX8_readItem 85 = .ok (.ifCond .eq 13, 3) := by decide +kernel
theorem dX8_readItem_88 : decode cX8_readItem 88 = .ok (.aload_n 0, 1) := by decide +kernel
theorem dX8_readItem_89 : decode cX8_readItem 89 = .ok (.iconst 0, 1) := by decide +kernel
theorem dX8_readItem_90 : decode cX8_readItem 90 = .ok (.bipush 8, 2) := by decide +kernel
theorem dX8_readItem_92 : decode cX8_readItem 92 = .ok (.invokevirtual 155, 3) := by decide +kernel
theorem dX8_readItem_95 : decode cX8_readItem 95 = .ok (.goto 4, 3) := by decide +kernel
theorem dX8_readItem_98 : decode cX8_readItem 98 = .ok (.iconst 0, 1) := by decide +kernel
theorem dX8_readItem_99 : decode cX8_readItem 99 = .ok (.istore 5, 2) := by decide +kernel
theorem dX8_readItem_101 : decode cX8_readItem 101 = .ok (.iload_n 1, 1) := by decide +kernel
theorem dX8_readItem_102 : decode cX8_readItem 102 = .ok (.ifCond .eq 12, 3) := by decide +kernel
theorem dX8_readItem_105 : decode cX8_readItem 105 = .ok (.aload_n 0, 1) := by decide +kernel
theorem dX8_readItem_106 : decode cX8_readItem 106 = .ok (.iconst 0, 1) := by decide +kernel
theorem dX8_readItem_107 : decode cX8_readItem 107 = .ok (.iconst 3, 1) := by decide +kernel
theorem dX8_readItem_108 : decode cX8_readItem 108 = .ok (.invokevirtual 155, 3) := by decide +kernel
theorem dX8_readItem_111 : decode cX8_readItem 111 = .ok (.goto 4, 3) := by decide +kernel
theorem dX8_readItem_114 : decode cX8_readItem 114 = .ok (.iconst 0, 1) := by decide +kernel
theorem dX8_readItem_115 : decode cX8_readItem 115 = .ok (.istore 6, 2) := by decide +kernel
theorem dX8_readItem_117 : decode cX8_readItem 117 = .ok (.iload_n 1, 1) := by decide +kernel
theorem dX8_readItem_118 : decode cX8_readItem 118 = .ok (.ifCond .eq 17, 3) := by decide +kernel
theorem dX8_readItem_121 : decode cX8_readItem 121 = .ok (.aload_n 0, 1) := by decide +kernel
theorem dX8_readItem_122 : decode cX8_readItem 122 = .ok (.ldc2_w 158, 3) := by decide +kernel
theorem dX8_readItem_125 : decode cX8_readItem 125 = .ok (.invokevirtual 149, 3) := by decide +kernel
theorem dX8_readItem_128 : decode cX8_readItem 128 = .ok (.ifCond .eq 7, 3) := by decide +kernel
theorem dX8_readItem_131 : decode cX8_readItem 131 = .ok (.iconst 1, 1) := by decide +kernel
theorem dX8_readItem_132 : decode cX8_readItem 132 = .ok (.goto 4, 3) := by decide +kernel
theorem dX8_readItem_135 : decode cX8_readItem 135 = .ok (.iconst 0, 1) := by decide +kernel
theorem dX8_readItem_136 : decode cX8_readItem 136 = .ok (.istore 7, 2) := by decide +kernel
theorem dX8_readItem_138 : decode cX8_readItem 138 = .ok (.iload 7, 2) := by decide +kernel
theorem dX8_readItem_140 : decode cX8_readItem 140 = .ok (.ifCond .eq 8, 3) := by decide +kernel
theorem dX8_readItem_143 : decode cX8_readItem 143 = .ok (.aload_n 0, 1) := by decide +kernel
theorem dX8_readItem_144 : decode cX8_readItem 144 = .ok (.iconst 1, 1) := by decide +kernel
theorem dX8_readItem_145 : decode cX8_readItem 145 = .ok (.invokevirtual 143, 3) := by decide +kernel
theorem dX8_readItem_148 : decode cX8_readItem 148 = .ok (.aload_n 0, 1) := by decide +kernel
theorem dX8_readItem_149 : decode cX8_readItem 149 = .ok (.aload_n 0, 1) := by decide +kernel
theorem dX8_readItem_150 : decode cX8_readItem 150 = .ok (.getfield 121, 3) := by decide +kernel
theorem dX8_readItem_153 : decode cX8_readItem 153 = .ok (.iconst 2, 1) := by decide +kernel
theorem dX8_readItem_154 : decode cX8_readItem 154 = .ok (.if_icmp .ne 7, 3) := by decide +kernel
theorem dX8_readItem_157 : decode cX8_readItem 157 = .ok (.iconst 1, 1) := by decide +kernel
theorem dX8_readItem_158 : decode cX8_readItem 158 = .ok (.goto 4, 3) := by decide +kernel
theorem dX8_readItem_161 : decode cX8_readItem 161 = .ok (.iconst 0, 1) := by decide +kernel
theorem dX8_readItem_162 : decode cX8_readItem 162 = .ok (.invokevirtual 143, 3) := by decide +kernel
theorem dX8_readItem_165 : decode cX8_readItem 165 = .ok (.aload_n 0, 1) := by decide +kernel
theorem dX8_readItem_166 : decode cX8_readItem 166 = .ok (.getfield 136, 3) := by decide +kernel
theorem dX8_readItem_169 : decode cX8_readItem 169 = .ok (.ifCond .ne 56, 3) := by decide +kernel
theorem dX8_readItem_172 : decode cX8_readItem 172 = .ok (.iload_n 1, 1) := by decide +kernel
theorem dX8_readItem_173 : decode cX8_readItem 173 = .ok (.ifCond .eq 28, 3) := by decide +kernel
theorem dX8_readItem_176 : decode cX8_readItem 176 = .ok (.aload_n 0, 1) := by decide +kernel
theorem dX8_readItem_177 : decode cX8_readItem 177 = .ok (.iload_n 2, 1) := by decide +kernel
theorem dX8_readItem_178 : decode cX8_readItem 178 = .ok (.iload_n 3, 1) := by decide +kernel
theorem dX8_readItem_179 : decode cX8_readItem 179 = .ok (.iload 4, 2) := by decide +kernel
theorem dX8_readItem_181 : decode cX8_readItem 181 = .ok (.iload 5, 2) := by decide +kernel
theorem dX8_readItem_183 : decode cX8_readItem 183 = .ok (.iload 6, 2) := by decide +kernel
theorem dX8_readItem_185 : decode cX8_readItem 185 = .ok (.iload 7, 2) := by decide +kernel
theorem dX8_readItem_187 : decode cX8_readItem 187 = .ok (.ifCond .eq 7, 3) := by decide +kernel
theorem dX8_readItem_190 : decode cX8_readItem 190 = .ok (.iconst 1, 1) := by decide +kernel
theorem dX8_readItem_191 : decode cX8_readItem 191 = .ok (.goto 4, 3) := by decide +kernel
theorem dX8_readItem_194 : decode cX8_readItem 194 = .ok (.iconst 0, 1) := by decide +kernel
theorem dX8_readItem_195 : decode cX8_readItem 195 = .ok (.invokevirtual 54, 3) := by decide +kernel
theorem dX8_readItem_198 : decode cX8_readItem 198 = .ok (.goto 11, 3) := by decide +kernel
theorem dX8_readItem_201 : decode cX8_readItem 201 = .ok (.aload_n 0, 1) := by decide +kernel
theorem dX8_readItem_202 : decode cX8_readItem 202 = .ok (.iload_n 2, 1) := by decide +kernel
theorem dX8_readItem_203 : decode cX8_readItem 203 = .ok (.iload_n 3, 1) := by decide +kernel
theorem dX8_readItem_204 : decode cX8_readItem 204 = .ok (.iload 4, 2) := by decide +kernel
theorem dX8_readItem_206 : decode cX8_readItem 206 = .ok (.invokevirtual 65, 3) := by decide +kernel
theorem dX8_readItem_209 : decode cX8_readItem 209 = .ok (.istore 8, 2) := by decide +kernel
theorem dX8_readItem_211 : decode cX8_readItem 211 = .ok (.aload_n 0, 1) := by decide +kernel
theorem dX8_readItem_212 : decode cX8_readItem 212 = .ok (.iload 8, 2) := by decide +kernel
theorem dX8_readItem_214 : decode cX8_readItem 214 = .ok (.ifCond .ge 7, 3) := by decide +kernel
theorem dX8_readItem_217 : decode cX8_readItem 217 = .ok (.iconst 1, 1) := by decide +kernel
theorem dX8_readItem_218 : decode cX8_readItem 218 = .ok (.goto 4, 3) := by decide +kernel
theorem dX8_readItem_221 : decode cX8_readItem 221 = .ok (.iconst 0, 1) := by decide +kernel
theorem dX8_readItem_222 : decode cX8_readItem 222 = .ok (.putfield 136, 3) := by decide +kernel
theorem dX8_readItem_225 : decode cX8_readItem 225 = .ok (.return_, 1) := by decide +kernel
theorem dX8_exchange_0 : decode cX8_exchange 0 = .ok (.iconst 0, 1) := by decide +kernel
theorem dX8_exchange_1 : decode cX8_exchange 1 = .ok (.istore_n 1, 1) := by decide +kernel
theorem dX8_exchange_2 : decode cX8_exchange 2 = .ok (.iload_n 1, 1) := by decide +kernel
theorem dX8_exchange_3 : decode cX8_exchange 3 = .ok (.sipush 572, 3) := by decide +kernel
theorem dX8_exchange_6 : decode cX8_exchange 6 = .ok (.if_icmp .ge 35, 3) := by decide +kernel
theorem dX8_exchange_9 : decode cX8_exchange 9 = .ok (.aload_n 0, 1) := by decide +kernel
theorem dX8_exchange_10 : decode cX8_exchange 10 = .ok (.getfield 7, 3) := by decide +kernel
theorem dX8_exchange_13 : decode cX8_exchange 13 = .ok (.iload_n 1, 1) := by decide +kernel
theorem dX8_exchange_14 : decode cX8_exchange 14 = .ok (.iaload, 1) := by decide +kernel
theorem dX8_exchange_15 : decode cX8_exchange 15 = .ok (.istore_n 2, 1) := by decide +kernel
theorem dX8_exchange_16 : decode cX8_exchange 16 = .ok (.aload_n 0, 1) := by decide +kernel
theorem dX8_exchange_17 : decode cX8_exchange 17 = .ok (.getfield 7, 3) := by decide +kernel
theorem dX8_exchange_20 : decode cX8_exchange 20 = .ok (.iload_n 1, 1) := by decide +kernel
theorem dX8_exchange_21 : decode cX8_exchange 21 = .ok (.aload_n 0, 1) := by decide +kernel
theorem dX8_exchange_22 : decode cX8_exchange 22 = .ok (.getfield 13, 3) := by decide +kernel
theorem dX8_exchange_25 : decode cX8_exchange 25 = .ok (.iload_n 1, 1) := by decide +kernel
theorem dX8_exchange_26 : decode cX8_exchange 26 = .ok (.iaload, 1) := by decide +kernel
theorem dX8_exchange_27 : decode cX8_exchange 27 = .ok (.iastore, 1) := by decide +kernel
theorem dX8_exchange_28 : decode cX8_exchange 28 = .ok (.aload_n 0, 1) := by decide +kernel
theorem dX8_exchange_29 : decode cX8_exchange 29 = .ok (.getfield 13, 3) := by decide +kernel
theorem dX8_exchange_32 : decode cX8_exchange 32 = .ok (.iload_n 1, 1) := by decide +kernel
theorem dX8_exchange_33 : decode cX8_exchange 33 = .ok (.iload_n 2, 1) := by decide +kernel
theorem dX8_exchange_34 : decode cX8_exchange 34 = .ok (.iastore, 1) := by decide +kernel
theorem dX8_exchange_35 : decode cX8_exchange 35 = .ok (.iinc 1 1, 3) := by decide +kernel
theorem dX8_exchange_38 : decode cX8_exchange 38 = .ok (.goto (-36), 3) := by decide +kernel
theorem dX8_exchange_41 : decode cX8_exchange 41 = .ok (.return_, 1) := by decide +kernel
set_option maxRecDepth 20000 in
theorem ggX8_load_X8_read : GoodIn wsX8_load wsX8_read := goodIn_r _ [13, 4, 7, 14, 6, 15, 16, 17, 18, 19, 20, 21, 22, 23, 24, 25, 12, 26, 8, 27, 28, 29, 71, 72, 73, 74, 75, 76, 77, 78, 79, 80, 81, 82] (by decide +kernel) (by decide +kernel)
set_option maxRecDepth 20000 in
theorem gX8_load_X8_read : GoodIn wsX8_load (wsV RX8 140 RX8 yX8_read wsX8_read) := goodIn_app (goodIn_of _ (by decide +kernel)) ggX8_load_X8_read
set_option maxRecDepth 20000 in
theorem ggX8_load_X8_readItem : GoodIn wsX8_load wsX8_readItem := goodIn_r _ [33, 34, 3, 35, 36, 6, 5, 37, 38, 39, 12, 40, 14, 41, 42, 43, 44, 9, 10, 11, 13, 4, 7, 15, 16, 17, 18, 19, 20, 21, 22, 23, 24, 25, 26, 8, 27, 28, 29, 45, 46, 47, 48, 49, 50, 51, 52, 53, 54, 55, 56, 57, 58, 59, 60, 71, 72, 73, 74, 75, 76, 77, 78, 79, 80, 81, 82] (by decide +kernel) (by decide +kernel)
set_option maxRecDepth 20000 in
theorem gX8_load_X8_readItem : GoodIn wsX8_load (wsV RX8 160 RX8 yX8_readItem wsX8_readItem) := goodIn_app (goodIn_of _ (by decide +kernel)) ggX8_load_X8_readItem
set_option maxRecDepth 20000 in
theorem ggX8_load_X8_exchange : GoodIn wsX8_load wsX8_exchange := goodIn_r _ [64, 3, 2, 71, 72, 73, 74, 75, 76, 77, 78, 79, 80, 81, 82] (by decide +kernel) (by decide +kernel)
set_option maxRecDepth 20000 in
theorem gX8_load_X8_exchange : GoodIn wsX8_load (wsV RX8 163 RX8 yX8_exchange wsX8_exchange) := goodIn_app (goodIn_of _ (by decide +kernel)) ggX8_load_X8_exchange
set_option maxRecDepth 20000 in
theorem ggX8_load_X8_act : GoodIn wsX8_load wsX8_act := goodIn_r _ [68, 69, 70, 3, 71, 72, 73, 74, 75, 76, 77, 78, 79, 80, 81, 82] (by decide +kernel) (by decide +kernel)
set_option maxRecDepth 20000 in
theorem gX8_load_X8_act : GoodIn wsX8_load (wsV RX8 29 RX8 yX8_act wsX8_act) := goodIn_app (goodIn_of _ (by decide +kernel)) ggX8_load_X8_act
theorem dX8_load_0 : decode cX8_load 0 = .ok (.aload_n 0, 1) := by decide +kernel
theorem dX8_load_1 : decode cX8_load 1 = .ok (.iconst 0, 1) := by decide +kernel
theorem dX8_load_2 : decode cX8_load 2 = .ok (.putfield 22, 3) := by decide +kernel
theorem dX8_load_5 : decode cX8_load 5 = .ok (.iconst 0, 1) := by decide +kernel
theorem dX8_load_6 : decode cX8_load 6 = .ok (.istore_n 1, 1) := by decide +kernel
theorem dX8_load_7 : decode cX8_load 7 = .ok (.iload_n 1, 1) := by decide +kernel
theorem dX8_load_8 : decode cX8_load 8 = .ok (.sipush 572, 3) := by decide +kernel
theorem dX8_load_11 : decode cX8_load 11 = .ok (.if_icmp .ge 21, 3) := by decide +kernel
theorem dX8_load_14 : decode cX8_load 14 = .ok (.aload_n 0, 1) := by decide +kernel
theorem dX8_load_15 : decode cX8_load 15 = .ok (.getfield 13, 3) := by decide +kernel
theorem dX8_load_18 : decode cX8_load 18 = .ok (.iload_n 1, 1) := by decide +kernel
theorem dX8_load_19 : decode cX8_load 19 = .ok (.aload_n 0, 1) := by decide +kernel
theorem dX8_load_20 : decode cX8_load 20 = .ok (.getfield 7, 3) := by decide +kernel
theorem dX8_load_23 : decode cX8_load 23 = .ok (.iload_n 1, 1) := by decide +kernel
theorem dX8_load_24 : decode cX8_load 24 = .ok (.iaload, 1) := by decide +kernel
theorem dX8_load_25 : decode cX8_load 25 = .ok (.iastore, 1) := by decide +kernel
theorem dX8_load_26 : decode cX8_load 26 = .ok (.iinc 1 1, 3) := by decide +kernel
theorem dX8_load_29 : decode cX8_load 29 = .ok (.goto (-22), 3) := by decide +kernel
theorem dX8_load_32 : decode cX8_load 32 = .ok (.aload_n 0, 1) := by decide +kernel
theorem dX8_load_33 : decode cX8_load 33 = .ok (.iconst 0, 1) := by decide +kernel
theorem dX8_load_34 : decode cX8_load 34 = .ok (.putfield 107, 3) := by decide +kernel
theorem dX8_load_37 : decode cX8_load 37 = .ok (.aload_n 0, 1) := by decide +kernel
theorem dX8_load_38 : decode cX8_load 38 = .ok (.iconst 0, 1) := by decide +kernel
theorem dX8_load_39 : decode cX8_load 39 = .ok (.putfield 136, 3) := by decide +kernel
theorem dX8_load_42 : decode cX8_load 42 = .ok (.iconst 0, 1) := by decide +kernel
theorem dX8_load_43 : decode cX8_load 43 = .ok (.istore_n 1, 1) := by decide +kernel
theorem dX8_load_44 : decode cX8_load 44 = .ok (.aload_n 0, 1) := by decide +kernel
theorem dX8_load_45 : decode cX8_load 45 = .ok (.invokevirtual 140, 3) := by decide +kernel
theorem dX8_load_48 : decode cX8_load 48 = .ok (.aload_n 0, 1) := by decide +kernel
theorem dX8_load_49 : decode cX8_load 49 = .ok (.getfield 136, 3) := by decide +kernel
theorem dX8_load_52 : decode cX8_load 52 = .ok (.ifCond .ne 21, 3) := by decide +kernel
theorem dX8_load_55 : decode cX8_load 55 = .ok (.aload_n 0, 1) := by decide +kernel
theorem dX8_load_56 : decode cX8_load 56 = .ok (.getfield 121, 3) := by decide +kernel
theorem dX8_load_59 : decode cX8_load 59 = .ok (.iconst 4, 1) := by decide +kernel
theorem dX8_load_60 : decode cX8_load 60 = .ok (.if_icmp .eq 13, 3) := by decide +kernel
theorem dX8_load_63 : decode cX8_load 63 = .ok (.aload_n 0, 1) := by decide +kernel
theorem dX8_load_64 : decode cX8_load 64 = .ok (.invokevirtual 160, 3) := by decide +kernel
theorem dX8_load_67 : decode cX8_load 67 = .ok (.iinc 1 1, 3) := by decide +kernel
theorem dX8_load_70 : decode cX8_load 70 = .ok (.goto (-22), 3) := by decide +kernel
theorem dX8_load_73 : decode cX8_load 73 = .ok (.aload_n 0, 1) := by decide +kernel
theorem dX8_load_74 : decode cX8_load 74 = .ok (.invokevirtual 163, 3) := by decide +kernel
theorem dX8_load_77 : decode cX8_load 77 = .ok (.aload_n 0, 1) := by decide +kernel
theorem dX8_load_78 : decode cX8_load 78 = .ok (.getfield 136, 3) := by decide +kernel
theorem dX8_load_81 : decode cX8_load 81 = .ok (.ifCond .eq 12, 3) := by decide +kernel
theorem dX8_load_84 : decode cX8_load 84 = .ok (.sipush (-10000), 3) := by decide +kernel
theorem dX8_load_87 : decode cX8_load 87 = .ok (.aload_n 0, 1) := by decide +kernel
theorem dX8_load_88 : decode cX8_load 88 = .ok (.getfield 114, 3) := by decide +kernel
theorem dX8_load_91 : decode cX8_load 91 = .ok (.isub, 1) := by decide +kernel
theorem dX8_load_92 : decode cX8_load 92 = .ok (.ireturn, 1) := by decide +kernel
theorem dX8_load_93 : decode cX8_load 93 = .ok (.aload_n 0, 1) := by decide +kernel
theorem dX8_load_94 : decode cX8_load 94 = .ok (.invokevirtual 29, 3) := by decide +kernel
theorem dX8_load_97 : decode cX8_load 97 = .ok (.aload_n 0, 1) := by decide +kernel
theorem dX8_load_98 : decode cX8_load 98 = .ok (.invokevirtual 163, 3) := by decide +kernel
theorem dX8_load_101 : decode cX8_load 101 = .ok (.aload_n 0, 1) := by decide +kernel
theorem dX8_load_102 : decode cX8_load 102 = .ok (.iconst 0, 1) := by decide +kernel
theorem dX8_load_103 : decode cX8_load 103 = .ok (.putfield 104, 3) := by decide +kernel
theorem dX8_load_106 : decode cX8_load 106 = .ok (.iload_n 1, 1) := by decide +kernel
theorem dX8_load_107 : decode cX8_load 107 = .ok (.ireturn, 1) := by decide +kernel
set_option maxRecDepth 20000 in
theorem ggX8_wear_X8_isScene : GoodIn wsX8_wear wsX8_isScene := goodIn_r _ [5, 6, 7, 8, 4, 9] (by decide +kernel) (by decide +kernel)
set_option maxRecDepth 20000 in
theorem gX8_wear_X8_isScene : GoodIn wsX8_wear (va_wsS RX8 166 yX8_isScene wsX8_isScene) := goodIn_app (goodIn_of _ (by decide +kernel)) ggX8_wear_X8_isScene
set_option maxRecDepth 20000 in
theorem ggX8_wear_X8_isActor : GoodIn wsX8_wear wsX8_isActor := goodIn_r _ [13, 14, 7, 8, 4, 9, 29, 30, 31, 32, 33, 34, 35, 36, 37, 38, 39, 40] (by decide +kernel) (by decide +kernel)
set_option maxRecDepth 20000 in
theorem gX8_wear_X8_isActor : GoodIn wsX8_wear (wsV RX8 169 RX8 yX8_isActor wsX8_isActor) := goodIn_app (goodIn_of _ (by decide +kernel)) ggX8_wear_X8_isActor
set_option maxRecDepth 20000 in
theorem ggX8_wear_X8_isCostume : GoodIn wsX8_wear wsX8_isCostume := goodIn_r _ [18, 14, 7, 8, 4, 9, 29, 30, 31, 32, 33, 34, 35, 36, 37, 38, 39, 40] (by decide +kernel) (by decide +kernel)
set_option maxRecDepth 20000 in
theorem gX8_wear_X8_isCostume : GoodIn wsX8_wear (wsV RX8 58 RX8 yX8_isCostume wsX8_isCostume) := goodIn_app (goodIn_of _ (by decide +kernel)) ggX8_wear_X8_isCostume
set_option maxRecDepth 20000 in
theorem ggX8_wear_X8_put : GoodIn wsX8_wear wsX8_put := goodIn_r _ [22, 14, 23, 24, 25, 4, 26, 27, 28, 29, 30, 31, 32, 33, 34, 35, 36, 37, 38, 39, 40] (by decide +kernel) (by decide +kernel)
set_option maxRecDepth 20000 in
theorem gX8_wear_X8_put : GoodIn wsX8_wear (wsV RX8 61 RX8 yX8_put wsX8_put) := goodIn_app (goodIn_of _ (by decide +kernel)) ggX8_wear_X8_put
theorem dX8_wear_0 : decode cX8_wear 0 = .ok (.aload_n 0, 1) := by decide +kernel
theorem dX8_wear_1 : decode cX8_wear 1 = .ok (.iconst 0, 1) := by decide +kernel
theorem dX8_wear_2 : decode cX8_wear 2 = .ok (.putfield 22, 3) := by decide +kernel
theorem dX8_wear_5 : decode cX8_wear 5 = .ok (.iload_n 1, 1) := by decide +kernel
theorem dX8_wear_6 : decode cX8_wear 6 = .ok (.invokestatic 166, 3) := by decide +kernel
theorem dX8_wear_9 : decode cX8_wear 9 = .ok (.ifCond .eq 24, 3) := by decide +kernel
theorem dX8_wear_12 : decode cX8_wear 12 = .ok (.aload_n 0, 1) := by decide +kernel
theorem dX8_wear_13 : decode cX8_wear 13 = .ok (.iload_n 2, 1) := by decide +kernel
theorem dX8_wear_14 : decode cX8_wear 14 = .ok (.invokevirtual 169, 3) := by decide +kernel
theorem dX8_wear_17 : decode cX8_wear 17 = .ok (.ifCond .eq 16, 3) := by decide +kernel
theorem dX8_wear_20 : decode cX8_wear 20 = .ok (.iload_n 3, 1) := by decide +kernel
theorem dX8_wear_21 : decode cX8_wear 21 = .ok (.iconst (-1), 1) := by decide +kernel
theorem dX8_wear_22 : decode cX8_wear 22 = .ok (.if_icmp .eq 15, 3) := by decide +kernel
theorem dX8_wear_25 : decode cX8_wear 25 = .ok (.aload_n 0, 1) := by decide +kernel
theorem dX8_wear_26 : decode cX8_wear 26 = .ok (.iload_n 3, 1) := by decide +kernel
theorem dX8_wear_27 : decode cX8_wear 27 = .ok (.invokevirtual 58, 3) := by decide +kernel
theorem dX8_wear_30 : decode cX8_wear 30 = .ok (.ifCond .ne 7, 3) := by decide +kernel
theorem dX8_wear_33 : decode cX8_wear 33 = .ok (.sipush (-2001), 3) := by decide +kernel
theorem dX8_wear_36 : decode cX8_wear 36 = .ok (.ireturn, 1) := by decide +kernel
theorem dX8_wear_37 : decode cX8_wear 37 = .ok (.aload_n 0, 1) := by decide +kernel
theorem dX8_wear_38 : decode cX8_wear 38 = .ok (.sipush 356, 3) := by decide +kernel
theorem dX8_wear_41 : decode cX8_wear 41 = .ok (.bipush 8, 2) := by decide +kernel
theorem dX8_wear_43 : decode cX8_wear 43 = .ok (.iload_n 1, 1) := by decide +kernel
theorem dX8_wear_44 : decode cX8_wear 44 = .ok (.imul, 1) := by decide +kernel
theorem dX8_wear_45 : decode cX8_wear 45 = .ok (.iadd, 1) := by decide +kernel
theorem dX8_wear_46 : decode cX8_wear 46 = .ok (.iload_n 2, 1) := by decide +kernel
theorem dX8_wear_47 : decode cX8_wear 47 = .ok (.iadd, 1) := by decide +kernel
theorem dX8_wear_48 : decode cX8_wear 48 = .ok (.iload_n 3, 1) := by decide +kernel
theorem dX8_wear_49 : decode cX8_wear 49 = .ok (.invokevirtual 61, 3) := by decide +kernel
theorem dX8_wear_52 : decode cX8_wear 52 = .ok (.ireturn, 1) := by decide +kernel
set_option maxRecDepth 20000 in
theorem ggX8_wearers_X8_worn : GoodIn wsX8_wearers wsX8_worn := goodIn_r _ [6, 1, 7, 8, 9, 10, 11, 12, 13, 14, 15, 16, 17, 18] (by decide +kernel) (by decide +kernel)
set_option maxRecDepth 20000 in
theorem gX8_wearers_X8_worn : GoodIn wsX8_wearers (wsV RX8 172 RX8 yX8_worn wsX8_worn) := goodIn_app (goodIn_of _ (by decide +kernel)) ggX8_wearers_X8_worn
theorem dX8_wearers_0 : decode cX8_wearers 0 = .ok (.iconst 0, 1) := by decide +kernel
theorem dX8_wearers_1 : decode cX8_wearers 1 = .ok (.istore_n 3, 1) := by decide +kernel
theorem dX8_wearers_2 : decode cX8_wearers 2 = .ok (.iconst 0, 1) := by decide +kernel
theorem dX8_wearers_3 : decode cX8_wearers 3 = .ok (.istore 4, 2) := by decide +kernel
theorem dX8_wearers_5 : decode cX8_wearers 5 = .ok (.iload 4, 2) := by decide +kernel
theorem dX8_wearers_7 : decode cX8_wearers 7 = .ok (.aload_n 0, 1) := by decide +kernel
theorem dX8_wearers_8 : decode cX8_wearers 8 = .ok (.getfield 7, 3) := by decide +kernel
theorem dX8_wearers_11 : decode cX8_wearers 11 = .ok (.iconst 1, 1) := by decide +kernel
theorem dX8_wearers_12 : decode cX8_wearers 12 = .ok (.iaload, 1) := by decide +kernel
theorem dX8_wearers_13 : decode cX8_wearers 13 = .ok (.if_icmp .ge 28, 3) := by decide +kernel
theorem dX8_wearers_16 : decode cX8_wearers 16 = .ok (.iload_n 3, 1) := by decide +kernel
theorem dX8_wearers_17 : decode cX8_wearers 17 = .ok (.aload_n 0, 1) := by decide +kernel
theorem dX8_wearers_18 : decode cX8_wearers 18 = .ok (.iload_n 1, 1) := by decide +kernel
theorem dX8_wearers_19 : decode cX8_wearers 19 = .ok (.iload 4, 2) := by decide +kernel
theorem dX8_wearers_21 : decode cX8_wearers 21 = .ok (.invokevirtual 172, 3) := by decide +kernel
theorem dX8_wearers_24 : decode cX8_wearers 24 = .ok (.iload_n 2, 1) := by decide +kernel
theorem dX8_wearers_25 : decode cX8_wearers 25 = .ok (.if_icmp .ne 7, 3) := by decide +kernel
theorem dX8_wearers_28 : decode cX8_wearers 28 = .ok (.iconst 1, 1) := by decide +kernel
theorem dX8_wearers_29 : decode cX8_wearers 29 = .ok (.goto 4, 3) := by decide +kernel
theorem dX8_wearers_32 : decode cX8_wearers 32 = .ok (.iconst 0, 1) := by decide +kernel
theorem dX8_wearers_33 : decode cX8_wearers 33 = .ok (.iadd, 1) := by decide +kernel
theorem dX8_wearers_34 : decode cX8_wearers 34 = .ok (.istore_n 3, 1) := by decide +kernel
theorem dX8_wearers_35 : decode cX8_wearers 35 = .ok (.iinc 4 1, 3) := by decide +kernel
theorem dX8_wearers_38 : decode cX8_wearers 38 = .ok (.goto (-33), 3) := by decide +kernel
theorem dX8_wearers_41 : decode cX8_wearers 41 = .ok (.iload_n 3, 1) := by decide +kernel
theorem dX8_wearers_42 : decode cX8_wearers 42 = .ok (.ireturn, 1) := by decide +kernel
set_option maxRecDepth 20000 in
theorem ggX8_scenesOf_X8_wearers : GoodIn wsX8_scenesOf wsX8_wearers := goodIn_r _ [5, 6, 7, 8, 9, 4, 10, 11, 12, 13, 14, 15, 16, 17, 18, 19, 20, 21, 22] (by decide +kernel) (by decide +kernel)
set_option maxRecDepth 20000 in
theorem gX8_scenesOf_X8_wearers : GoodIn wsX8_scenesOf (wsV RX8 175 RX8 yX8_wearers wsX8_wearers) := goodIn_app (goodIn_of _ (by decide +kernel)) ggX8_scenesOf_X8_wearers
theorem dX8_scenesOf_0 : decode cX8_scenesOf 0 = .ok (.iconst 0, 1) := by decide +kernel
theorem dX8_scenesOf_1 : decode cX8_scenesOf 1 = .ok (.istore_n 2, 1) := by decide +kernel
theorem dX8_scenesOf_2 : decode cX8_scenesOf 2 = .ok (.iconst 0, 1) := by decide +kernel
theorem dX8_scenesOf_3 : decode cX8_scenesOf 3 = .ok (.istore_n 3, 1) := by decide +kernel
theorem dX8_scenesOf_4 : decode cX8_scenesOf 4 = .ok (.iload_n 3, 1) := by decide +kernel
theorem dX8_scenesOf_5 : decode cX8_scenesOf 5 = .ok (.bipush 12, 2) := by decide +kernel
theorem dX8_scenesOf_7 : decode cX8_scenesOf 7 = .ok (.if_icmp .ge 26, 3) := by decide +kernel
theorem dX8_scenesOf_10 : decode cX8_scenesOf 10 = .ok (.iload_n 2, 1) := by decide +kernel
theorem dX8_scenesOf_11 : decode cX8_scenesOf 11 = .ok (.aload_n 0, 1) := by decide +kernel
theorem dX8_scenesOf_12 : decode cX8_scenesOf 12 = .ok (.iload_n 3, 1) := by decide +kernel
theorem dX8_scenesOf_13 : decode cX8_scenesOf 13 = .ok (.iload_n 1, 1) := by decide +kernel
theorem dX8_scenesOf_14 : decode cX8_scenesOf 14 = .ok (.invokevirtual 175, 3) := by decide +kernel
theorem dX8_scenesOf_17 : decode cX8_scenesOf 17 = .ok (.ifCond .le 7, 3) := by decide +kernel
theorem dX8_scenesOf_20 : decode cX8_scenesOf 20 = .ok (.iconst 1, 1) := by decide +kernel
theorem dX8_scenesOf_21 : decode cX8_scenesOf 21 = .ok (.goto 4, 3) := by decide +kernel
theorem dX8_scenesOf_24 : decode cX8_scenesOf 24 = .ok (.iconst 0, 1) := by decide +kernel
theorem dX8_scenesOf_25 : decode cX8_scenesOf 25 = .ok (.iadd, 1) := by decide +kernel
theorem dX8_scenesOf_26 : decode cX8_scenesOf 26 = .ok (.istore_n 2, 1) := by decide +kernel
theorem dX8_scenesOf_27 : decode cX8_scenesOf 27 = .ok (.iinc 3 1, 3) := by decide +kernel
theorem dX8_scenesOf_30 : decode cX8_scenesOf 30 = .ok (.goto (-26), 3) := by decide +kernel
theorem dX8_scenesOf_33 : decode cX8_scenesOf 33 = .ok (.iload_n 2, 1) := by decide +kernel
theorem dX8_scenesOf_34 : decode cX8_scenesOf 34 = .ok (.ireturn, 1) := by decide +kernel
set_option maxRecDepth 20000 in
theorem ggX8_isHanded_X8_worn : GoodIn wsX8_isHanded wsX8_worn := goodIn_r _ [6, 1, 11, 12, 13, 14, 15, 16, 17, 18, 19, 20, 21, 22] (by decide +kernel) (by decide +kernel)
set_option maxRecDepth 20000 in
theorem gX8_isHanded_X8_worn : GoodIn wsX8_isHanded (wsV RX8 172 RX8 yX8_worn wsX8_worn) := goodIn_app (goodIn_of _ (by decide +kernel)) ggX8_isHanded_X8_worn
set_option maxRecDepth 20000 in
theorem ggX8_isHanded_X8_wearers : GoodIn wsX8_isHanded wsX8_wearers := goodIn_r _ [10, 1, 2, 3, 4, 5, 6, 11, 12, 13, 14, 15, 16, 17, 18, 19, 20, 21, 22] (by decide +kernel) (by decide +kernel)
set_option maxRecDepth 20000 in
theorem gX8_isHanded_X8_wearers : GoodIn wsX8_isHanded (wsV RX8 175 RX8 yX8_wearers wsX8_wearers) := goodIn_app (goodIn_of _ (by decide +kernel)) ggX8_isHanded_X8_wearers
theorem dX8_isHanded_0 : decode cX8_isHanded 0 = .ok (.iconst 0, 1) := by decide +kernel
theorem dX8_isHanded_1 : decode cX8_isHanded 1 = .ok (.istore_n 3, 1) := by decide +kernel
theorem dX8_isHanded_2 : decode cX8_isHanded 2 = .ok (.iconst 0, 1) := by decide +kernel
theorem dX8_isHanded_3 : decode cX8_isHanded 3 = .ok (.istore 4, 2) := by decide +kernel
theorem dX8_isHanded_5 : decode cX8_isHanded 5 = .ok (.iload 4, 2) := by decide +kernel
theorem dX8_isHanded_7 : decode cX8_isHanded 7 = .ok (.aload_n 0, 1) := by decide +kernel
theorem dX8_isHanded_8 : decode cX8_isHanded 8 = .ok (.getfield 7, 3) := by decide +kernel
theorem dX8_isHanded_11 : decode cX8_isHanded 11 = .ok (.iconst 1, 1) := by decide +kernel
theorem dX8_isHanded_12 : decode cX8_isHanded 12 = .ok (.iaload, 1) := by decide +kernel
theorem dX8_isHanded_13 : decode cX8_isHanded 13 = .ok (.if_icmp .ge 43, 3) := by decide +kernel
theorem dX8_isHanded_16 : decode cX8_isHanded 16 = .ok (.iload_n 3, 1) := by decide +kernel
theorem dX8_isHanded_17 : decode cX8_isHanded 17 = .ok (.ifCond .ne 27, 3) := by decide +kernel
theorem dX8_isHanded_20 : decode cX8_isHanded 20 = .ok (.aload_n 0, 1) := by decide +kernel
theorem dX8_isHanded_21 : decode cX8_isHanded 21 = .ok (.iload_n 1, 1) := by decide +kernel
theorem dX8_isHanded_22 : decode cX8_isHanded 22 = .ok (.iconst 1, 1) := by decide +kernel
theorem dX8_isHanded_23 : decode cX8_isHanded 23 = .ok (.iadd, 1) := by decide +kernel
theorem dX8_isHanded_24 : decode cX8_isHanded 24 = .ok (.iload 4, 2) := by decide +kernel
theorem dX8_isHanded_26 : decode cX8_isHanded 26 = .ok (.invokevirtual 172, 3) := by decide +kernel
theorem dX8_isHanded_29 : decode cX8_isHanded 29 = .ok (.iload_n 2, 1) := by decide +kernel
theorem dX8_isHanded_30 : decode cX8_isHanded 30 = .ok (.if_icmp .ne 18, 3) := by decide +kernel
theorem dX8_isHanded_33 : decode cX8_isHanded 33 = .ok (.aload_n 0, 1) := by decide +kernel
theorem dX8_isHanded_34 : decode cX8_isHanded 34 = .ok (.iload_n 1, 1) := by decide +kernel
theorem dX8_isHanded_35 : decode cX8_isHanded 35 = .ok (.iload 4, 2) := by decide +kernel
theorem dX8_isHanded_37 : decode cX8_isHanded 37 = .ok (.invokevirtual 172, 3) := by decide +kernel
theorem dX8_isHanded_40 : decode cX8_isHanded 40 = .ok (.iload_n 2, 1) := by decide +kernel
theorem dX8_isHanded_41 : decode cX8_isHanded 41 = .ok (.if_icmp .eq 7, 3) := by decide +kernel
theorem dX8_isHanded_44 : decode cX8_isHanded 44 = .ok (.iconst 1, 1) := by decide +kernel
theorem dX8_isHanded_45 : decode cX8_isHanded 45 = .ok (.goto 4, 3) := by decide +kernel
theorem dX8_isHanded_48 : decode cX8_isHanded 48 = .ok (.iconst 0, 1) := by decide +kernel
theorem dX8_isHanded_49 : decode cX8_isHanded 49 = .ok (.istore_n 3, 1) := by decide +kernel
theorem dX8_isHanded_50 : decode cX8_isHanded 50 = .ok (.iinc 4 1, 3) := by decide +kernel
theorem dX8_isHanded_53 : decode cX8_isHanded 53 = .ok (.goto (-48), 3) := by decide +kernel
theorem dX8_isHanded_56 : decode cX8_isHanded 56 = .ok (.iload_n 3, 1) := by decide +kernel
theorem dX8_isHanded_57 : decode cX8_isHanded 57 = .ok (.ifCond .eq 16, 3) := by decide +kernel
theorem dX8_isHanded_60 : decode cX8_isHanded 60 = .ok (.aload_n 0, 1) := by decide +kernel
theorem dX8_isHanded_61 : decode cX8_isHanded 61 = .ok (.iload_n 1, 1) := by decide +kernel
theorem dX8_isHanded_62 : decode cX8_isHanded 62 = .ok (.iload_n 2, 1) := by decide +kernel
theorem dX8_isHanded_63 : decode cX8_isHanded 63 = .ok (.invokevirtual 175, 3) := by decide +kernel
theorem dX8_isHanded_66 : decode cX8_isHanded 66 = .ok (.ifCond .le 7, 3) := by decide +kernel
theorem dX8_isHanded_69 : decode cX8_isHanded 69 = .ok (.iconst 1, 1) := by decide +kernel
