theorem dX8_isHanded_70 : decode cX8_isHanded 70 = .ok (.goto 4, 3) := by decide +kernel
theorem dX8_isHanded_73 : decode cX8_isHanded 73 = .ok (.iconst 0, 1) := by decide +kernel
theorem dX8_isHanded_74 : decode cX8_isHanded 74 = .ok (.ireturn, 1) := by decide +kernel
set_option maxRecDepth 20000 in
theorem ggX8_costumeProblems_X8_wearers : GoodIn wsX8_costumeProblems wsX8_wearers := goodIn_r _ [6, 1, 7, 8, 9, 5, 10, 15, 16, 17, 18, 19, 20, 21, 22, 23, 24, 25, 26] (by decide +kernel) (by decide +kernel)
set_option maxRecDepth 20000 in
theorem gX8_costumeProblems_X8_wearers : GoodIn wsX8_costumeProblems (wsV RX8 175 RX8 yX8_wearers wsX8_wearers) := goodIn_app (goodIn_of _ (by decide +kernel)) ggX8_costumeProblems_X8_wearers
set_option maxRecDepth 20000 in
theorem ggX8_costumeProblems_X8_isHanded : GoodIn wsX8_costumeProblems wsX8_isHanded := goodIn_r _ [14, 1, 7, 8, 9, 5, 10, 2, 3, 4, 6, 15, 16, 17, 18, 19, 20, 21, 22, 23, 24, 25, 26] (by decide +kernel) (by decide +kernel)
set_option maxRecDepth 20000 in
theorem gX8_costumeProblems_X8_isHanded : GoodIn wsX8_costumeProblems (wsV RX8 178 RX8 yX8_isHanded wsX8_isHanded) := goodIn_app (goodIn_of _ (by decide +kernel)) ggX8_costumeProblems_X8_isHanded
theorem dX8_costumeProblems_0 : decode cX8_costumeProblems 0 = .ok (.iconst 0, 1) := by decide +kernel
theorem dX8_costumeProblems_1 : decode cX8_costumeProblems 1 = .ok (.istore_n 2, 1) := by decide +kernel
theorem dX8_costumeProblems_2 : decode cX8_costumeProblems 2 = .ok (.iconst 0, 1) := by decide +kernel
theorem dX8_costumeProblems_3 : decode cX8_costumeProblems 3 = .ok (.istore_n 3, 1) := by decide +kernel
theorem dX8_costumeProblems_4 : decode cX8_costumeProblems 4 = .ok (.iload_n 3, 1) := by decide +kernel
theorem dX8_costumeProblems_5 : decode cX8_costumeProblems 5 = .ok (.bipush 12, 2) := by decide +kernel
theorem dX8_costumeProblems_7 : decode cX8_costumeProblems 7 = .ok (.iload_n 1, 1) := by decide +kernel
theorem dX8_costumeProblems_8 : decode cX8_costumeProblems 8 = .ok (.isub, 1) := by decide +kernel
theorem dX8_costumeProblems_9 : decode cX8_costumeProblems 9 = .ok (.if_icmp .ge 65, 3) := by decide +kernel
theorem dX8_costumeProblems_12 : decode cX8_costumeProblems 12 = .ok (.iconst 0, 1) := by decide +kernel
theorem dX8_costumeProblems_13 : decode cX8_costumeProblems 13 = .ok (.istore 4, 2) := by decide +kernel
theorem dX8_costumeProblems_15 : decode cX8_costumeProblems 15 = .ok (.iload 4, 2) := by decide +kernel
theorem dX8_costumeProblems_17 : decode cX8_costumeProblems 17 = .ok (.aload_n 0, 1) := by decide +kernel
theorem dX8_costumeProblems_18 : decode cX8_costumeProblems 18 = .ok (.getfield 7, 3) := by decide +kernel
theorem dX8_costumeProblems_21 : decode cX8_costumeProblems 21 = .ok (.iconst 0, 1) := by decide +kernel
theorem dX8_costumeProblems_22 : decode cX8_costumeProblems 22 = .ok (.iaload, 1) := by decide +kernel
theorem dX8_costumeProblems_23 : decode cX8_costumeProblems 23 = .ok (.if_icmp .ge 45, 3) := by decide +kernel
theorem dX8_costumeProblems_26 : decode cX8_costumeProblems 26 = .ok (.iload_n 2, 1) := by decide +kernel
theorem dX8_costumeProblems_27 : decode cX8_costumeProblems 27 = .ok (.iload_n 1, 1) := by decide +kernel
theorem dX8_costumeProblems_28 : decode cX8_costumeProblems 28 = .ok (.ifCond .ne 17, 3) := by decide +kernel
theorem dX8_costumeProblems_31 : decode cX8_costumeProblems 31 = .ok (.aload_n 0, 1) := by decide +kernel
theorem dX8_costumeProblems_32 : decode cX8_costumeProblems 32 = .ok (.iload_n 3, 1) := by decide +kernel
theorem dX8_costumeProblems_33 : decode cX8_costumeProblems 33 = .ok (.iload 4, 2) := by decide +kernel
theorem dX8_costumeProblems_35 : decode cX8_costumeProblems 35 = .ok (.invokevirtual 175, 3) := by decide +kernel
theorem dX8_costumeProblems_38 : decode cX8_costumeProblems 38 = .ok (.iconst 1, 1) := by decide +kernel
theorem dX8_costumeProblems_39 : decode cX8_costumeProblems 39 = .ok (.if_icmp .le 20, 3) := by decide +kernel
theorem dX8_costumeProblems_42 : decode cX8_costumeProblems 42 = .ok (.goto 13, 3) := by decide +kernel
theorem dX8_costumeProblems_45 : decode cX8_costumeProblems 45 = .ok (.aload_n 0, 1) := by decide +kernel
theorem dX8_costumeProblems_46 : decode cX8_costumeProblems 46 = .ok (.iload_n 3, 1) := by decide +kernel
theorem dX8_costumeProblems_47 : decode cX8_costumeProblems 47 = .ok (.iload 4, 2) := by decide +kernel
theorem dX8_costumeProblems_49 : decode cX8_costumeProblems 49 = .ok (.invokevirtual 178, 3) := by decide +kernel
theorem dX8_costumeProblems_52 : decode cX8_costumeProblems 52 = .ok (.ifCond .eq 7, 3) := by decide +kernel
theorem dX8_costumeProblems_55 : decode cX8_costumeProblems 55 = .ok (.iconst 1, 1) := by decide +kernel
theorem dX8_costumeProblems_56 : decode cX8_costumeProblems 56 = .ok (.goto 4, 3) := by decide +kernel
theorem dX8_costumeProblems_59 : decode cX8_costumeProblems 59 = .ok (.iconst 0, 1) := by decide +kernel
theorem dX8_costumeProblems_60 : decode cX8_costumeProblems 60 = .ok (.iadd, 1) := by decide +kernel
theorem dX8_costumeProblems_61 : decode cX8_costumeProblems 61 = .ok (.istore_n 2, 1) := by decide +kernel
theorem dX8_costumeProblems_62 : decode cX8_costumeProblems 62 = .ok (.iinc 4 1, 3) := by decide +kernel
theorem dX8_costumeProblems_65 : decode cX8_costumeProblems 65 = .ok (.goto (-50), 3) := by decide +kernel
theorem dX8_costumeProblems_68 : decode cX8_costumeProblems 68 = .ok (.iinc 3 1, 3) := by decide +kernel
theorem dX8_costumeProblems_71 : decode cX8_costumeProblems 71 = .ok (.goto (-67), 3) := by decide +kernel
theorem dX8_costumeProblems_74 : decode cX8_costumeProblems 74 = .ok (.iload_n 2, 1) := by decide +kernel
theorem dX8_costumeProblems_75 : decode cX8_costumeProblems 75 = .ok (.ireturn, 1) := by decide +kernel
set_option maxRecDepth 20000 in
theorem ggX8_misfitOf_X8_wantedOf : GoodIn wsX8_misfitOf wsX8_wantedOf := goodIn_r _ [5, 6, 7, 8, 9, 4, 10, 11, 12, 13, 14, 15, 16, 17, 18, 22, 23, 24, 25, 26, 27, 28, 29, 30, 31, 32, 33] (by decide +kernel) (by decide +kernel)
set_option maxRecDepth 20000 in
theorem gX8_misfitOf_X8_wantedOf : GoodIn wsX8_misfitOf (wsV RX8 181 RX8 yX8_wantedOf wsX8_wantedOf) := goodIn_app (goodIn_of _ (by decide +kernel)) ggX8_misfitOf_X8_wantedOf
set_option maxRecDepth 20000 in
theorem ggX8_misfitOf_X8_present : GoodIn wsX8_misfitOf wsX8_present := goodIn_r _ [10, 11, 12, 13, 4, 14, 6, 22, 23, 24, 25, 26, 27, 28, 29, 30, 31, 32, 33] (by decide +kernel) (by decide +kernel)
set_option maxRecDepth 20000 in
theorem gX8_misfitOf_X8_present : GoodIn wsX8_misfitOf (wsV RX8 78 RX8 yX8_present wsX8_present) := goodIn_app (goodIn_of _ (by decide +kernel)) ggX8_misfitOf_X8_present
set_option maxRecDepth 20000 in
theorem ggX8_misfitOf_X8_distance : GoodIn wsX8_misfitOf wsX8_distance := goodIn_r _ [21] (by decide +kernel) (by decide +kernel)
set_option maxRecDepth 20000 in
theorem gX8_misfitOf_X8_distance : GoodIn wsX8_misfitOf (va_wsS RX8 99 yX8_distance wsX8_distance) := goodIn_app (goodIn_of _ (by decide +kernel)) ggX8_misfitOf_X8_distance
theorem dX8_misfitOf_0 : decode cX8_misfitOf 0 = .ok (.iconst 0, 1) := by decide +kernel
theorem dX8_misfitOf_1 : decode cX8_misfitOf 1 = .ok (.istore_n 3, 1) := by decide +kernel
theorem dX8_misfitOf_2 : decode cX8_misfitOf 2 = .ok (.iconst 0, 1) := by decide +kernel
theorem dX8_misfitOf_3 : decode cX8_misfitOf 3 = .ok (.istore 4, 2) := by decide +kernel
theorem dX8_misfitOf_5 : decode cX8_misfitOf 5 = .ok (.iload 4, 2) := by decide +kernel
theorem dX8_misfitOf_7 : decode cX8_misfitOf 7 = .ok (.iconst 3, 1) := by decide +kernel
theorem dX8_misfitOf_8 : decode cX8_misfitOf 8 = .ok (.if_icmp .ge 30, 3) := by decide +kernel
theorem dX8_misfitOf_11 : decode cX8_misfitOf 11 = .ok (.iload_n 3, 1) := by decide +kernel
theorem dX8_misfitOf_12 : decode cX8_misfitOf 12 = .ok (.aload_n 0, 1) := by decide +kernel
theorem dX8_misfitOf_13 : decode cX8_misfitOf 13 = .ok (.iload_n 1, 1) := by decide +kernel
theorem dX8_misfitOf_14 : decode cX8_misfitOf 14 = .ok (.iload_n 2, 1) := by decide +kernel
theorem dX8_misfitOf_15 : decode cX8_misfitOf 15 = .ok (.iload 4, 2) := by decide +kernel
theorem dX8_misfitOf_17 : decode cX8_misfitOf 17 = .ok (.invokevirtual 181, 3) := by decide +kernel
theorem dX8_misfitOf_20 : decode cX8_misfitOf 20 = .ok (.aload_n 0, 1) := by decide +kernel
theorem dX8_misfitOf_21 : decode cX8_misfitOf 21 = .ok (.iload_n 1, 1) := by decide +kernel
theorem dX8_misfitOf_22 : decode cX8_misfitOf 22 = .ok (.iload 4, 2) := by decide +kernel
theorem dX8_misfitOf_24 : decode cX8_misfitOf 24 = .ok (.invokevirtual 78, 3) := by decide +kernel
theorem dX8_misfitOf_27 : decode cX8_misfitOf 27 = .ok (.invokestatic 99, 3) := by decide +kernel
theorem dX8_misfitOf_30 : decode cX8_misfitOf 30 = .ok (.iadd, 1) := by decide +kernel
theorem dX8_misfitOf_31 : decode cX8_misfitOf 31 = .ok (.istore_n 3, 1) := by decide +kernel
theorem dX8_misfitOf_32 : decode cX8_misfitOf 32 = .ok (.iinc 4 1, 3) := by decide +kernel
theorem dX8_misfitOf_35 : decode cX8_misfitOf 35 = .ok (.goto (-30), 3) := by decide +kernel
theorem dX8_misfitOf_38 : decode cX8_misfitOf 38 = .ok (.iload_n 3, 1) := by decide +kernel
theorem dX8_misfitOf_39 : decode cX8_misfitOf 39 = .ok (.ireturn, 1) := by decide +kernel
set_option maxRecDepth 20000 in
theorem ggX8_wantedOf_X8_present : GoodIn wsX8_wantedOf wsX8_present := goodIn_r _ [6, 7, 8, 9, 5, 10, 1, 15, 16, 17, 18, 19, 20, 21, 22, 23, 24, 25, 26] (by decide +kernel) (by decide +kernel)
set_option maxRecDepth 20000 in
theorem gX8_wantedOf_X8_present : GoodIn wsX8_wantedOf (wsV RX8 78 RX8 yX8_present wsX8_present) := goodIn_app (goodIn_of _ (by decide +kernel)) ggX8_wantedOf_X8_present
set_option maxRecDepth 20000 in
theorem ggX8_wantedOf_X8_measureOf : GoodIn wsX8_wantedOf wsX8_measureOf := goodIn_r _ [14, 1, 15, 16, 17, 18, 19, 20, 21, 22, 23, 24, 25, 26] (by decide +kernel) (by decide +kernel)
set_option maxRecDepth 20000 in
theorem gX8_wantedOf_X8_measureOf : GoodIn wsX8_wantedOf (wsV RX8 184 RX8 yX8_measureOf wsX8_measureOf) := goodIn_app (goodIn_of _ (by decide +kernel)) ggX8_wantedOf_X8_measureOf
theorem dX8_wantedOf_0 : decode cX8_wantedOf 0 = .ok (.aload_n 0, 1) := by decide +kernel
theorem dX8_wantedOf_1 : decode cX8_wantedOf 1 = .ok (.iload_n 1, 1) := by decide +kernel
theorem dX8_wantedOf_2 : decode cX8_wantedOf 2 = .ok (.iload_n 3, 1) := by decide +kernel
theorem dX8_wantedOf_3 : decode cX8_wantedOf 3 = .ok (.invokevirtual 78, 3) := by decide +kernel
theorem dX8_wantedOf_6 : decode cX8_wantedOf 6 = .ok (.istore 4, 2) := by decide +kernel
theorem dX8_wantedOf_8 : decode cX8_wantedOf 8 = .ok (.aload_n 0, 1) := by decide +kernel
theorem dX8_wantedOf_9 : decode cX8_wantedOf 9 = .ok (.iload_n 2, 1) := by decide +kernel
theorem dX8_wantedOf_10 : decode cX8_wantedOf 10 = .ok (.iload_n 3, 1) := by decide +kernel
theorem dX8_wantedOf_11 : decode cX8_wantedOf 11 = .ok (.invokevirtual 184, 3) := by decide +kernel
theorem dX8_wantedOf_14 : decode cX8_wantedOf 14 = .ok (.istore 5, 2) := by decide +kernel
theorem dX8_wantedOf_16 : decode cX8_wantedOf 16 = .ok (.iload 5, 2) := by decide +kernel
theorem dX8_wantedOf_18 : decode cX8_wantedOf 18 = .ok (.aload_n 0, 1) := by decide +kernel
theorem dX8_wantedOf_19 : decode cX8_wantedOf 19 = .ok (.getfield 7, 3) := by decide +kernel
theorem dX8_wantedOf_22 : decode cX8_wantedOf 22 = .ok (.bipush 8, 2) := by decide +kernel
theorem dX8_wantedOf_24 : decode cX8_wantedOf 24 = .ok (.iload_n 3, 1) := by decide +kernel
theorem dX8_wantedOf_25 : decode cX8_wantedOf 25 = .ok (.iadd, 1) := by decide +kernel
theorem dX8_wantedOf_26 : decode cX8_wantedOf 26 = .ok (.iaload, 1) := by decide +kernel
theorem dX8_wantedOf_27 : decode cX8_wantedOf 27 = .ok (.iadd, 1) := by decide +kernel
theorem dX8_wantedOf_28 : decode cX8_wantedOf 28 = .ok (.istore 6, 2) := by decide +kernel
theorem dX8_wantedOf_30 : decode cX8_wantedOf 30 = .ok (.iload 4, 2) := by decide +kernel
theorem dX8_wantedOf_32 : decode cX8_wantedOf 32 = .ok (.iload 5, 2) := by decide +kernel
theorem dX8_wantedOf_34 : decode cX8_wantedOf 34 = .ok (.if_icmp .ge 8, 3) := by decide +kernel
theorem dX8_wantedOf_37 : decode cX8_wantedOf 37 = .ok (.iload 5, 2) := by decide +kernel
theorem dX8_wantedOf_39 : decode cX8_wantedOf 39 = .ok (.goto 17, 3) := by decide +kernel
theorem dX8_wantedOf_42 : decode cX8_wantedOf 42 = .ok (.iload 4, 2) := by decide +kernel
theorem dX8_wantedOf_44 : decode cX8_wantedOf 44 = .ok (.iload 6, 2) := by decide +kernel
theorem dX8_wantedOf_46 : decode cX8_wantedOf 46 = .ok (.if_icmp .le 8, 3) := by decide +kernel
theorem dX8_wantedOf_49 : decode cX8_wantedOf 49 = .ok (.iload 6, 2) := by decide +kernel
theorem dX8_wantedOf_51 : decode cX8_wantedOf 51 = .ok (.goto 5, 3) := by decide +kernel
theorem dX8_wantedOf_54 : decode cX8_wantedOf 54 = .ok (.iload 4, 2) := by decide +kernel
theorem dX8_wantedOf_56 : decode cX8_wantedOf 56 = .ok (.ireturn, 1) := by decide +kernel
set_option maxRecDepth 20000 in
theorem ggX8_isProblem_X8_misfitOf : GoodIn wsX8_isProblem wsX8_misfitOf := goodIn_r _ [6, 7, 8, 9, 5, 10, 1, 11, 12, 13, 14, 15, 16, 17, 18, 19, 20, 21, 22, 23, 24, 25, 41, 42, 43, 44, 45, 46, 47, 48, 49, 50, 51, 52] (by decide +kernel) (by decide +kernel)
set_option maxRecDepth 20000 in
theorem gX8_isProblem_X8_misfitOf : GoodIn wsX8_isProblem (wsV RX8 187 RX8 yX8_misfitOf wsX8_misfitOf) := goodIn_app (goodIn_of _ (by decide +kernel)) ggX8_isProblem_X8_misfitOf
set_option maxRecDepth 20000 in
theorem ggX8_isProblem_X8_isAwayToday : GoodIn wsX8_isProblem wsX8_isAwayToday := goodIn_r _ [29, 1, 30, 31, 32, 5, 33, 34, 35, 36, 37, 38, 39, 40, 41, 42, 43, 44, 45, 46, 47, 48, 49, 50, 51, 52] (by decide +kernel) (by decide +kernel)
set_option maxRecDepth 20000 in
theorem gX8_isProblem_X8_isAwayToday : GoodIn wsX8_isProblem (wsV RX8 92 RX8 yX8_isAwayToday wsX8_isAwayToday) := goodIn_app (goodIn_of _ (by decide +kernel)) ggX8_isProblem_X8_isAwayToday
set_option maxRecDepth 20000 in
theorem ggX8_isProblem_X8_of : GoodIn wsX8_isProblem wsX8_of := goodIn_r _ [18, 1, 41, 42, 43, 44, 45, 46, 47, 48, 49, 50, 51, 52] (by decide +kernel) (by decide +kernel)
set_option maxRecDepth 20000 in
theorem gX8_isProblem_X8_of : GoodIn wsX8_isProblem (wsV RX8 75 RX8 yX8_of wsX8_of) := goodIn_app (goodIn_of _ (by decide +kernel)) ggX8_isProblem_X8_of
theorem dX8_isProblem_0 : decode cX8_isProblem 0 = .ok (.iload_n 3, 1) := by decide +kernel
theorem dX8_isProblem_1 : decode cX8_isProblem 1 = .ok (.iconst 2, 1) := by decide +kernel
theorem dX8_isProblem_2 : decode cX8_isProblem 2 = .ok (.if_icmp .ne 20, 3) := by decide +kernel
theorem dX8_isProblem_5 : decode cX8_isProblem 5 = .ok (.aload_n 0, 1) := by decide +kernel
theorem dX8_isProblem_6 : decode cX8_isProblem 6 = .ok (.iload_n 1, 1) := by decide +kernel
theorem dX8_isProblem_7 : decode cX8_isProblem 7 = .ok (.iload_n 2, 1) := by decide +kernel
theorem dX8_isProblem_8 : decode cX8_isProblem 8 = .ok (.invokevirtual 187, 3) := by decide +kernel
theorem dX8_isProblem_11 : decode cX8_isProblem 11 = .ok (.ifCond .le 7, 3) := by decide +kernel
theorem dX8_isProblem_14 : decode cX8_isProblem 14 = .ok (.iconst 1, 1) := by decide +kernel
theorem dX8_isProblem_15 : decode cX8_isProblem 15 = .ok (.goto 42, 3) := by decide +kernel
theorem dX8_isProblem_18 : decode cX8_isProblem 18 = .ok (.iconst 0, 1) := by decide +kernel
theorem dX8_isProblem_19 : decode cX8_isProblem 19 = .ok (.goto 38, 3) := by decide +kernel
theorem dX8_isProblem_22 : decode cX8_isProblem 22 = .ok (.iload_n 3, 1) := by decide +kernel
theorem dX8_isProblem_23 : decode cX8_isProblem 23 = .ok (.iconst 3, 1) := by decide +kernel
theorem dX8_isProblem_24 : decode cX8_isProblem 24 = .ok (.if_icmp .ne 11, 3) := by decide +kernel
theorem dX8_isProblem_27 : decode cX8_isProblem 27 = .ok (.aload_n 0, 1) := by decide +kernel
theorem dX8_isProblem_28 : decode cX8_isProblem 28 = .ok (.iload_n 1, 1) := by decide +kernel
theorem dX8_isProblem_29 : decode cX8_isProblem 29 = .ok (.invokevirtual 92, 3) := by decide +kernel
theorem dX8_isProblem_32 : decode cX8_isProblem 32 = .ok (.goto 25, 3) := by decide +kernel
theorem dX8_isProblem_35 : decode cX8_isProblem 35 = .ok (.aload_n 0, 1) := by decide +kernel
theorem dX8_isProblem_36 : decode cX8_isProblem 36 = .ok (.iload_n 1, 1) := by decide +kernel
theorem dX8_isProblem_37 : decode cX8_isProblem 37 = .ok (.bipush 6, 2) := by decide +kernel
theorem dX8_isProblem_39 : decode cX8_isProblem 39 = .ok (.invokevirtual 75, 3) := by decide +kernel
theorem dX8_isProblem_42 : decode cX8_isProblem 42 = .ok (.aload_n 0, 1) := by decide +kernel
theorem dX8_isProblem_43 : decode cX8_isProblem 43 = .ok (.getfield 7, 3) := by decide +kernel
theorem dX8_isProblem_46 : decode cX8_isProblem 46 = .ok (.bipush 11, 2) := by decide +kernel
theorem dX8_isProblem_48 : decode cX8_isProblem 48 = .ok (.iaload, 1) := by decide +kernel
theorem dX8_isProblem_49 : decode cX8_isProblem 49 = .ok (.if_icmp .lt 7, 3) := by decide +kernel
theorem dX8_isProblem_52 : decode cX8_isProblem 52 = .ok (.iconst 1, 1) := by decide +kernel
theorem dX8_isProblem_53 : decode cX8_isProblem 53 = .ok (.goto 4, 3) := by decide +kernel
theorem dX8_isProblem_56 : decode cX8_isProblem 56 = .ok (.iconst 0, 1) := by decide +kernel
theorem dX8_isProblem_57 : decode cX8_isProblem 57 = .ok (.ireturn, 1) := by decide +kernel
set_option maxRecDepth 20000 in
theorem ggX8_problemsOf_X8_costumeProblems : GoodIn wsX8_problemsOf wsX8_costumeProblems := goodIn_r _ [6, 1, 7, 8, 9, 5, 10, 11, 12, 13, 14, 15, 16, 17, 18, 61, 62, 63, 64, 65, 66, 67, 68, 69, 70, 71, 72] (by decide +kernel) (by decide +kernel)
set_option maxRecDepth 20000 in
theorem gX8_problemsOf_X8_costumeProblems : GoodIn wsX8_problemsOf (wsV RX8 190 RX8 yX8_costumeProblems wsX8_costumeProblems) := goodIn_app (goodIn_of _ (by decide +kernel)) ggX8_problemsOf_X8_costumeProblems
set_option maxRecDepth 20000 in
theorem ggX8_problemsOf_X8_worn : GoodIn wsX8_problemsOf wsX8_worn := goodIn_r _ [14, 1, 61, 62, 63, 64, 65, 66, 67, 68, 69, 70, 71, 72] (by decide +kernel) (by decide +kernel)
set_option maxRecDepth 20000 in
theorem gX8_problemsOf_X8_worn : GoodIn wsX8_problemsOf (wsV RX8 172 RX8 yX8_worn wsX8_worn) := goodIn_app (goodIn_of _ (by decide +kernel)) ggX8_problemsOf_X8_worn
set_option maxRecDepth 20000 in
theorem ggX8_problemsOf_X8_isProblem : GoodIn wsX8_problemsOf wsX8_isProblem := goodIn_r _ [22, 1, 23, 24, 25, 5, 26, 27, 28, 29, 30, 31, 32, 33, 34, 35, 36, 37, 38, 39, 40, 41, 42, 43, 44, 45, 46, 47, 48, 49, 50, 51, 52, 53, 54, 55, 56, 57, 58, 59, 60, 61, 62, 63, 64, 65, 66, 67, 68, 69, 70, 71, 72] (by decide +kernel) (by decide +kernel)
set_option maxRecDepth 20000 in
theorem gX8_problemsOf_X8_isProblem : GoodIn wsX8_problemsOf (wsV RX8 194 RX8 yX8_isProblem wsX8_isProblem) := goodIn_app (goodIn_of _ (by decide +kernel)) ggX8_problemsOf_X8_isProblem
theorem dX8_problemsOf_0 : decode cX8_problemsOf 0 = .ok (.iload_n 1, 1) := by decide +kernel
theorem dX8_problemsOf_1 : decode cX8_problemsOf 1 = .ok (.iconst 2, 1) := by decide +kernel
theorem dX8_problemsOf_2 : decode cX8_problemsOf 2 = .ok (.if_icmp .ge 9, 3) := by decide +kernel
theorem dX8_problemsOf_5 : decode cX8_problemsOf 5 = .ok (.aload_n 0, 1) := by decide +kernel
theorem dX8_problemsOf_6 : decode cX8_problemsOf 6 = .ok (.iload_n 1, 1) := by decide +kernel
theorem dX8_problemsOf_7 : decode cX8_problemsOf 7 = .ok (.invokevirtual 190, 3) := by decide +kernel
theorem dX8_problemsOf_10 : decode cX8_problemsOf 10 = .ok (.ireturn, 1) := by decide +kernel
theorem dX8_problemsOf_11 : decode cX8_problemsOf 11 = .ok (.iconst 0, 1) := by decide +kernel
theorem dX8_problemsOf_12 : decode cX8_problemsOf 12 = .ok (.istore_n 2, 1) := by decide +kernel
theorem dX8_problemsOf_13 : decode cX8_problemsOf 13 = .ok (.iconst 0, 1) := by decide +kernel
theorem dX8_problemsOf_14 : decode cX8_problemsOf 14 = .ok (.istore_n 3, 1) := by decide +kernel
theorem dX8_problemsOf_15 : decode cX8_problemsOf 15 = .ok (.iload_n 3, 1) := by decide +kernel
theorem dX8_problemsOf_16 : decode cX8_problemsOf 16 = .ok (.bipush 12, 2) := by decide +kernel
theorem dX8_problemsOf_18 : decode cX8_problemsOf 18 = .ok (.if_icmp .ge 65, 3) := by decide +kernel
theorem dX8_problemsOf_21 : decode cX8_problemsOf 21 = .ok (.iconst 0, 1) := by decide +kernel
theorem dX8_problemsOf_22 : decode cX8_problemsOf 22 = .ok (.istore 4, 2) := by decide +kernel
theorem dX8_problemsOf_24 : decode cX8_problemsOf 24 = .ok (.iload 4, 2) := by decide +kernel
theorem dX8_problemsOf_26 : decode cX8_problemsOf 26 = .ok (.aload_n 0, 1) := by decide +kernel
theorem dX8_problemsOf_27 : decode cX8_problemsOf 27 = .ok (.getfield 7, 3) := by decide +kernel
theorem dX8_problemsOf_30 : decode cX8_problemsOf 30 = .ok (.iconst 1, 1) := by decide +kernel
theorem dX8_problemsOf_31 : decode cX8_problemsOf 31 = .ok (.iaload, 1) := by decide +kernel
theorem dX8_problemsOf_32 : decode cX8_problemsOf 32 = .ok (.if_icmp .ge 45, 3) := by decide +kernel
theorem dX8_problemsOf_35 : decode cX8_problemsOf 35 = .ok (.iload_n 2, 1) := by decide +kernel
theorem dX8_problemsOf_36 : decode cX8_problemsOf 36 = .ok (.aload_n 0, 1) := by decide +kernel
theorem dX8_problemsOf_37 : decode cX8_problemsOf 37 = .ok (.iload_n 3, 1) := by decide +kernel
theorem dX8_problemsOf_38 : decode cX8_problemsOf 38 = .ok (.iload 4, 2) := by decide +kernel
theorem dX8_problemsOf_40 : decode cX8_problemsOf 40 = .ok (.invokevirtual 172, 3) := by decide +kernel
theorem dX8_problemsOf_43 : decode cX8_problemsOf 43 = .ok (.iconst (-1), 1) := by decide +kernel
theorem dX8_problemsOf_44 : decode cX8_problemsOf 44 = .ok (.if_icmp .eq 24, 3) := by decide +kernel
theorem dX8_problemsOf_47 : decode cX8_problemsOf 47 = .ok (.aload_n 0, 1) := by decide +kernel
theorem dX8_problemsOf_48 : decode cX8_problemsOf 48 = .ok (.aload_n 0, 1) := by decide +kernel
theorem dX8_problemsOf_49 : decode cX8_problemsOf 49 = .ok (.iload_n 3, 1) := by decide +kernel
theorem dX8_problemsOf_50 : decode cX8_problemsOf 50 = .ok (.iload 4, 2) := by decide +kernel
theorem dX8_problemsOf_52 : decode cX8_problemsOf 52 = .ok (.invokevirtual 172, 3) := by decide +kernel
theorem dX8_problemsOf_55 : decode cX8_problemsOf 55 = .ok (.iload 4, 2) := by decide +kernel
theorem dX8_problemsOf_57 : decode cX8_problemsOf 57 = .ok (.iload_n 1, 1) := by decide +kernel
theorem dX8_problemsOf_58 : decode cX8_problemsOf 58 = .ok (.invokevirtual 194, 3) := by decide +kernel
theorem dX8_problemsOf_61 : decode cX8_problemsOf 61 = .ok (.ifCond .eq 7, 3) := by decide +kernel
theorem dX8_problemsOf_64 : decode cX8_problemsOf 64 = .ok (.iconst 1, 1) := by decide +kernel
theorem dX8_problemsOf_65 : decode cX8_problemsOf 65 = .ok (.goto 4, 3) := by decide +kernel
theorem dX8_problemsOf_68 : decode cX8_problemsOf 68 = .ok (.iconst 0, 1) := by decide +kernel
theorem dX8_problemsOf_69 : decode cX8_problemsOf 69 = .ok (.iadd, 1) := by decide +kernel
theorem dX8_problemsOf_70 : decode cX8_problemsOf 70 = .ok (.istore_n 2, 1) := by decide +kernel
theorem dX8_problemsOf_71 : decode cX8_problemsOf 71 = .ok (.iinc 4 1, 3) := by decide +kernel
theorem dX8_problemsOf_74 : decode cX8_problemsOf 74 = .ok (.goto (-50), 3) := by decide +kernel
theorem dX8_problemsOf_77 : decode cX8_problemsOf 77 = .ok (.iinc 3 1, 3) := by decide +kernel
theorem dX8_problemsOf_80 : decode cX8_problemsOf 80 = .ok (.goto (-65), 3) := by decide +kernel
theorem dX8_problemsOf_83 : decode cX8_problemsOf 83 = .ok (.iload_n 2, 1) := by decide +kernel
theorem dX8_problemsOf_84 : decode cX8_problemsOf 84 = .ok (.ireturn, 1) := by decide +kernel
set_option maxRecDepth 20000 in
theorem ggX8_perform_X8_problemsOf : GoodIn wsX8_perform wsX8_problemsOf := goodIn_r _ [7, 2, 8, 9, 10, 6, 11, 12, 13, 14, 15, 16, 17, 18, 19, 20, 21, 22, 23, 24, 25, 26, 27, 28, 29, 30, 31, 32, 33, 34, 35, 36, 37, 38, 39, 40, 41, 42, 43, 44, 45, 46, 47, 48, 49, 50, 51, 52, 53, 54, 55, 56, 57, 58, 59, 60, 61, 62, 63, 64, 65, 80, 81, 82, 83, 84, 85, 86, 87, 88, 89, 90, 91] (by decide +kernel) (by decide +kernel)
set_option maxRecDepth 20000 in
theorem gX8_perform_X8_problemsOf : GoodIn wsX8_perform (wsV RX8 197 RX8 yX8_problemsOf wsX8_problemsOf) := goodIn_app (goodIn_of _ (by decide +kernel)) ggX8_perform_X8_problemsOf
set_option maxRecDepth 20000 in
theorem ggX8_perform_X8_act : GoodIn wsX8_perform wsX8_act := goodIn_r _ [69, 70, 71, 2, 80, 81, 82, 83, 84, 85, 86, 87, 88, 89, 90, 91] (by decide +kernel) (by decide +kernel)
set_option maxRecDepth 20000 in
theorem gX8_perform_X8_act : GoodIn wsX8_perform (wsV RX8 29 RX8 yX8_act wsX8_act) := goodIn_app (goodIn_of _ (by decide +kernel)) ggX8_perform_X8_act
set_option maxRecDepth 20000 in
theorem ggX8_perform_X8_of : GoodIn wsX8_perform wsX8_of := goodIn_r _ [43, 2, 80, 81, 82, 83, 84, 85, 86, 87, 88, 89, 90, 91] (by decide +kernel) (by decide +kernel)
set_option maxRecDepth 20000 in
theorem gX8_perform_X8_of : GoodIn wsX8_perform (wsV RX8 75 RX8 yX8_of wsX8_of) := goodIn_app (goodIn_of _ (by decide +kernel)) ggX8_perform_X8_of
set_option maxRecDepth 20000 in
theorem ggX8_perform_X8_scenesOf : GoodIn wsX8_perform wsX8_scenesOf := goodIn_r _ [75, 12, 13, 14, 6, 15, 2, 16, 17, 18, 19, 80, 81, 82, 83, 84, 85, 86, 87, 88, 89, 90, 91] (by decide +kernel) (by decide +kernel)
set_option maxRecDepth 20000 in
theorem gX8_perform_X8_scenesOf : GoodIn wsX8_perform (wsV RX8 200 RX8 yX8_scenesOf wsX8_scenesOf) := goodIn_app (goodIn_of _ (by decide +kernel)) ggX8_perform_X8_scenesOf
set_option maxRecDepth 20000 in
theorem ggX8_perform_X8_lay : GoodIn wsX8_perform wsX8_lay := goodIn_r _ [79, 2, 80, 81, 82, 83, 84, 85, 86, 87, 88, 89, 90, 91] (by decide +kernel) (by decide +kernel)
set_option maxRecDepth 20000 in
theorem gX8_perform_X8_lay : GoodIn wsX8_perform (wsV RX8 42 RX8 yX8_lay wsX8_lay) := goodIn_app (goodIn_of _ (by decide +kernel)) ggX8_perform_X8_lay
theorem dX8_perform_0 : decode cX8_perform 0 = .ok (.aload_n 0, 1) := by decide +kernel
theorem dX8_perform_1 : decode cX8_perform 1 = .ok (.iconst 0, 1) := by decide +kernel
theorem dX8_perform_2 : decode cX8_perform 2 = .ok (.putfield 22, 3) := by decide +kernel
theorem dX8_perform_5 : decode cX8_perform 5 = .ok (.iconst 0, 1) := by decide +kernel
theorem dX8_perform_6 : decode cX8_perform 6 = .ok (.istore_n 1, 1) := by decide +kernel
theorem dX8_perform_7 : decode cX8_perform 7 = .ok (.iload_n 1, 1) := by decide +kernel
theorem dX8_perform_8 : decode cX8_perform 8 = .ok (.iconst 5, 1) := by decide +kernel
theorem dX8_perform_9 : decode cX8_perform 9 = .ok (.if_icmp .ge 21, 3) := by decide +kernel
theorem dX8_perform_12 : decode cX8_perform 12 = .ok (.aload_n 0, 1) := by decide +kernel
theorem dX8_perform_13 : decode cX8_perform 13 = .ok (.iload_n 1, 1) := by decide +kernel
theorem dX8_perform_14 : decode cX8_perform 14 = .ok (.invokevirtual 197, 3) := by decide +kernel
theorem dX8_perform_17 : decode cX8_perform 17 = .ok (.ifCond .le 7, 3) := by decide +kernel
theorem dX8_perform_20 : decode cX8_perform 20 = .ok (.sipush (-2002), 3) := by decide +kernel
theorem dX8_perform_23 : decode cX8_perform 23 = .ok (.ireturn, 1) := by decide +kernel
theorem dX8_perform_24 : decode cX8_perform 24 = .ok (.iinc 1 1, 3) := by decide +kernel
theorem dX8_perform_27 : decode cX8_perform 27 = .ok (.goto (-20), 3) := by decide +kernel
theorem dX8_perform_30 : decode cX8_perform 30 = .ok (.aload_n 0, 1) := by decide +kernel
theorem dX8_perform_31 : decode cX8_perform 31 = .ok (.getfield 7, 3) := by decide +kernel
theorem dX8_perform_34 : decode cX8_perform 34 = .ok (.iconst 3, 1) := by decide +kernel
theorem dX8_perform_35 : decode cX8_perform 35 = .ok (.iaload, 1) := by decide +kernel
theorem dX8_perform_36 : decode cX8_perform 36 = .ok (.sipush 300, 3) := by decide +kernel
theorem dX8_perform_39 : decode cX8_perform 39 = .ok (.if_icmp .ne 7, 3) := by decide +kernel
theorem dX8_perform_42 : decode cX8_perform 42 = .ok (.sipush (-2003), 3) := by decide +kernel
theorem dX8_perform_45 : decode cX8_perform 45 = .ok (.ireturn, 1) := by decide +kernel
theorem dX8_perform_46 : decode cX8_perform 46 = .ok (.aload_n 0, 1) := by decide +kernel
theorem dX8_perform_47 : decode cX8_perform 47 = .ok (.invokevirtual 29, 3) := by decide +kernel
theorem dX8_perform_50 : decode cX8_perform 50 = .ok (.iconst 0, 1) := by decide +kernel
theorem dX8_perform_51 : decode cX8_perform 51 = .ok (.istore_n 1, 1) := by decide +kernel
theorem dX8_perform_52 : decode cX8_perform 52 = .ok (.iload_n 1, 1) := by decide +kernel
theorem dX8_perform_53 : decode cX8_perform 53 = .ok (.aload_n 0, 1) := by decide +kernel
theorem dX8_perform_54 : decode cX8_perform 54 = .ok (.getfield 7, 3) := by decide +kernel
theorem dX8_perform_57 : decode cX8_perform 57 = .ok (.iconst 0, 1) := by decide +kernel
theorem dX8_perform_58 : decode cX8_perform 58 = .ok (.iaload, 1) := by decide +kernel
theorem dX8_perform_59 : decode cX8_perform 59 = .ok (.if_icmp .ge 42, 3) := by decide +kernel
theorem dX8_perform_62 : decode cX8_perform 62 = .ok (.aload_n 0, 1) := by decide +kernel
theorem dX8_perform_63 : decode cX8_perform 63 = .ok (.iload_n 1, 1) := by decide +kernel
theorem dX8_perform_64 : decode cX8_perform 64 = .ok (.bipush 6, 2) := by decide +kernel
theorem dX8_perform_66 : decode cX8_perform 66 = .ok (.invokevirtual 75, 3) := by decide +kernel
theorem dX8_perform_69 : decode cX8_perform 69 = .ok (.aload_n 0, 1) := by decide +kernel
theorem dX8_perform_70 : decode cX8_perform 70 = .ok (.iload_n 1, 1) := by decide +kernel
theorem dX8_perform_71 : decode cX8_perform 71 = .ok (.invokevirtual 200, 3) := by decide +kernel
theorem dX8_perform_74 : decode cX8_perform 74 = .ok (.iadd, 1) := by decide +kernel
theorem dX8_perform_75 : decode cX8_perform 75 = .ok (.istore_n 2, 1) := by decide +kernel
theorem dX8_perform_76 : decode cX8_perform 76 = .ok (.aload_n 0, 1) := by decide +kernel
theorem dX8_perform_77 : decode cX8_perform 77 = .ok (.iload_n 1, 1) := by decide +kernel
theorem dX8_perform_78 : decode cX8_perform 78 = .ok (.bipush 6, 2) := by decide +kernel
theorem dX8_perform_80 : decode cX8_perform 80 = .ok (.iload_n 2, 1) := by decide +kernel
theorem dX8_perform_81 : decode cX8_perform 81 = .ok (.bipush 9, 2) := by decide +kernel
theorem dX8_perform_83 : decode cX8_perform 83 = .ok (.if_icmp .le 8, 3) := by decide +kernel
theorem dX8_perform_86 : decode cX8_perform 86 = .ok (.bipush 9, 2) := by decide +kernel
theorem dX8_perform_88 : decode cX8_perform 88 = .ok (.goto 4, 3) := by decide +kernel
theorem dX8_perform_91 : decode cX8_perform 91 = .ok (.iload_n 2, 1) := by decide +kernel
theorem dX8_perform_92 : decode cX8_perform 92 = .ok (.invokevirtual 42, 3) := by decide +kernel
theorem dX8_perform_95 : decode cX8_perform 95 = .ok (.iinc 1 1, 3) := by decide +kernel
theorem dX8_perform_98 : decode cX8_perform 98 = .ok (.goto (-46), 3) := by decide +kernel
theorem dX8_perform_101 : decode cX8_perform 101 = .ok (.aload_n 0, 1) := by decide +kernel
theorem dX8_perform_102 : decode cX8_perform 102 = .ok (.getfield 7, 3) := by decide +kernel
theorem dX8_perform_105 : decode cX8_perform 105 = .ok (.bipush 7, 2) := by decide +kernel
theorem dX8_perform_107 : decode cX8_perform 107 = .ok (.dup2, 1) := by decide +kernel
theorem dX8_perform_108 : decode cX8_perform 108 = .ok (.iaload, 1) := by decide +kernel
theorem dX8_perform_109 : decode cX8_perform 109 = .ok (.iconst 1, 1) := by decide +kernel
theorem dX8_perform_110 : decode cX8_perform 110 = .ok (.iadd, 1) := by decide +kernel
theorem dX8_perform_111 : decode cX8_perform 111 = .ok (.iastore, 1) := by decide +kernel
theorem dX8_perform_112 : decode cX8_perform 112 = .ok (.aload_n 0, 1) := by decide +kernel
theorem dX8_perform_113 : decode cX8_perform 113 = .ok (.getfield 7, 3) := by decide +kernel
theorem dX8_perform_116 : decode cX8_perform 116 = .ok (.iconst 3, 1) := by decide +kernel
theorem dX8_perform_117 : decode cX8_perform 117 = .ok (.dup2, 1) := by decide +kernel
theorem dX8_perform_118 : decode cX8_perform 118 = .ok (.iaload, 1) := by decide +kernel
theorem dX8_perform_119 : decode cX8_perform 119 = .ok (.iconst 1, 1) := by decide +kernel
theorem dX8_perform_120 : decode cX8_perform 120 = .ok (.iadd, 1) := by decide +kernel
theorem dX8_perform_121 : decode cX8_perform 121 = .ok (.iastore, 1) := by decide +kernel
theorem dX8_perform_122 : decode cX8_perform 122 = .ok (.aload_n 0, 1) := by decide +kernel
theorem dX8_perform_123 : decode cX8_perform 123 = .ok (.getfield 7, 3) := by decide +kernel
theorem dX8_perform_126 : decode cX8_perform 126 = .ok (.iconst 3, 1) := by decide +kernel
theorem dX8_perform_127 : decode cX8_perform 127 = .ok (.iaload, 1) := by decide +kernel
theorem dX8_perform_128 : decode cX8_perform 128 = .ok (.ireturn, 1) := by decide +kernel
set_option maxRecDepth 20000 in
theorem ggX8_pass_X8_in : GoodIn wsX8_pass wsX8_in := goodIn_r _ [7] (by decide +kernel) (by decide +kernel)
set_option maxRecDepth 20000 in
theorem gX8_pass_X8_in : GoodIn wsX8_pass (va_wsS RX8 32 yX8_in wsX8_in) := goodIn_app (goodIn_of _ (by decide +kernel)) ggX8_pass_X8_in
set_option maxRecDepth 20000 in
theorem ggX8_pass_X8_act : GoodIn wsX8_pass wsX8_act := goodIn_r _ [11, 12, 13, 3, 14, 15, 16, 17, 18, 19, 20, 21, 22, 23, 24, 25] (by decide +kernel) (by decide +kernel)
set_option maxRecDepth 20000 in
theorem gX8_pass_X8_act : GoodIn wsX8_pass (wsV RX8 29 RX8 yX8_act wsX8_act) := goodIn_app (goodIn_of _ (by decide +kernel)) ggX8_pass_X8_act
theorem dX8_pass_0 : decode cX8_pass 0 = .ok (.aload_n 0, 1) := by decide +kernel
theorem dX8_pass_1 : decode cX8_pass 1 = .ok (.iconst 0, 1) := by decide +kernel
theorem dX8_pass_2 : decode cX8_pass 2 = .ok (.putfield 22, 3) := by decide +kernel
theorem dX8_pass_5 : decode cX8_pass 5 = .ok (.iload_n 1, 1) := by decide +kernel
theorem dX8_pass_6 : decode cX8_pass 6 = .ok (.i2l, 1) := by decide +kernel
theorem dX8_pass_7 : decode cX8_pass 7 = .ok (.lconst 1, 1) := by decide +kernel
theorem dX8_pass_8 : decode cX8_pass 8 = .ok (.ldc2_w 203, 3) := by decide +kernel
theorem dX8_pass_11 : decode cX8_pass 11 = .ok (.invokestatic 32, 3) := by decide +kernel
theorem dX8_pass_14 : decode cX8_pass 14 = .ok (.ifCond .ne 7, 3) := by decide +kernel
theorem dX8_pass_17 : decode cX8_pass 17 = .ok (.sipush (-2001), 3) := by decide +kernel
theorem dX8_pass_20 : decode cX8_pass 20 = .ok (.ireturn, 1) := by decide +kernel
theorem dX8_pass_21 : decode cX8_pass 21 = .ok (.aload_n 0, 1) := by decide +kernel
theorem dX8_pass_22 : decode cX8_pass 22 = .ok (.getfield 7, 3) := by decide +kernel
theorem dX8_pass_25 : decode cX8_pass 25 = .ok (.iconst 3, 1) := by decide +kernel
theorem dX8_pass_26 : decode cX8_pass 26 = .ok (.iaload, 1) := by decide +kernel
theorem dX8_pass_27 : decode cX8_pass 27 = .ok (.iload_n 1, 1) := by decide +kernel
theorem dX8_pass_28 : decode cX8_pass 28 = .ok (.iadd, 1) := by decide +kernel
theorem dX8_pass_29 : decode cX8_pass 29 = .ok (.sipush 300, 3) := by decide +kernel
theorem dX8_pass_32 : decode cX8_pass 32 = .ok (.if_icmp .le 7, 3) := by decide +kernel
theorem dX8_pass_35 : decode cX8_pass 35 = .ok (.sipush (-2003), 3) := by decide +kernel
theorem dX8_pass_38 : decode cX8_pass 38 = .ok (.ireturn, 1) := by decide +kernel
theorem dX8_pass_39 : decode cX8_pass 39 = .ok (.aload_n 0, 1) := by decide +kernel
theorem dX8_pass_40 : decode cX8_pass 40 = .ok (.invokevirtual 29, 3) := by decide +kernel
theorem dX8_pass_43 : decode cX8_pass 43 = .ok (.aload_n 0, 1) := by decide +kernel
theorem dX8_pass_44 : decode cX8_pass 44 = .ok (.getfield 7, 3) := by decide +kernel
theorem dX8_pass_47 : decode cX8_pass 47 = .ok (.iconst 3, 1) := by decide +kernel
theorem dX8_pass_48 : decode cX8_pass 48 = .ok (.dup2, 1) := by decide +kernel
theorem dX8_pass_49 : decode cX8_pass 49 = .ok (.iaload, 1) := by decide +kernel
theorem dX8_pass_50 : decode cX8_pass 50 = .ok (.iload_n 1, 1) := by decide +kernel
theorem dX8_pass_51 : decode cX8_pass 51 = .ok (.iadd, 1) := by decide +kernel
theorem dX8_pass_52 : decode cX8_pass 52 = .ok (.iastore, 1) := by decide +kernel
theorem dX8_pass_53 : decode cX8_pass 53 = .ok (.aload_n 0, 1) := by decide +kernel
theorem dX8_pass_54 : decode cX8_pass 54 = .ok (.getfield 7, 3) := by decide +kernel
theorem dX8_pass_57 : decode cX8_pass 57 = .ok (.iconst 3, 1) := by decide +kernel
theorem dX8_pass_58 : decode cX8_pass 58 = .ok (.iaload, 1) := by decide +kernel
theorem dX8_pass_59 : decode cX8_pass 59 = .ok (.ireturn, 1) := by decide +kernel
theorem dX8_feeOf_0 : decode cX8_feeOf 0 = .ok (.iload_n 1, 1) := by decide +kernel
theorem dX8_feeOf_1 : decode cX8_feeOf 1 = .ok (.iload_n 0, 1) := by decide +kernel
theorem dX8_feeOf_2 : decode cX8_feeOf 2 = .ok (.iload_n 0, 1) := by decide +kernel
theorem dX8_feeOf_3 : decode cX8_feeOf 3 = .ok (.bipush 7, 2) := by decide +kernel
theorem dX8_feeOf_5 : decode cX8_feeOf 5 = .ok (.idiv, 1) := by decide +kernel
theorem dX8_feeOf_6 : decode cX8_feeOf 6 = .ok (.isub, 1) := by decide +kernel
theorem dX8_feeOf_7 : decode cX8_feeOf 7 = .ok (.imul, 1) := by decide +kernel
theorem dX8_feeOf_8 : decode cX8_feeOf 8 = .ok (.ireturn, 1) := by decide +kernel
set_option maxRecDepth 20000 in
theorem ggX8_isAwayIn_X8_ofHire : GoodIn wsX8_isAwayIn wsX8_ofHire := goodIn_r _ [6, 1, 7, 8, 9, 10, 11, 12, 13, 14, 15, 16, 17, 18] (by decide +kernel) (by decide +kernel)
set_option maxRecDepth 20000 in
theorem gX8_isAwayIn_X8_ofHire : GoodIn wsX8_isAwayIn (wsV RX8 81 RX8 yX8_ofHire wsX8_ofHire) := goodIn_app (goodIn_of _ (by decide +kernel)) ggX8_isAwayIn_X8_ofHire
theorem dX8_isAwayIn_0 : decode cX8_isAwayIn 0 = .ok (.iconst 0, 1) := by decide +kernel
theorem dX8_isAwayIn_1 : decode cX8_isAwayIn 1 = .ok (.istore 4, 2) := by decide +kernel
theorem dX8_isAwayIn_3 : decode cX8_isAwayIn 3 = .ok (.iconst 0, 1) := by decide +kernel
theorem dX8_isAwayIn_4 : decode cX8_isAwayIn 4 = .ok (.istore 5, 2) := by decide +kernel
theorem dX8_isAwayIn_6 : decode cX8_isAwayIn 6 = .ok (.iload 5, 2) := by decide +kernel
theorem dX8_isAwayIn_8 : decode cX8_isAwayIn 8 = .ok (.aload_n 0, 1) := by decide +kernel
theorem dX8_isAwayIn_9 : decode cX8_isAwayIn 9 = .ok (.getfield 7, 3) := by decide +kernel
theorem dX8_isAwayIn_12 : decode cX8_isAwayIn 12 = .ok (.iconst 2, 1) := by decide +kernel
theorem dX8_isAwayIn_13 : decode cX8_isAwayIn 13 = .ok (.iaload, 1) := by decide +kernel
theorem dX8_isAwayIn_14 : decode cX8_isAwayIn 14 = .ok (.if_icmp .ge 63, 3) := by decide +kernel
theorem dX8_isAwayIn_17 : decode cX8_isAwayIn 17 = .ok (.aload_n 0, 1) := by decide +kernel
theorem dX8_isAwayIn_18 : decode cX8_isAwayIn 18 = .ok (.iload 5, 2) := by decide +kernel
theorem dX8_isAwayIn_20 : decode cX8_isAwayIn 20 = .ok (.iconst 1, 1) := by decide +kernel
theorem dX8_isAwayIn_21 : decode cX8_isAwayIn 21 = .ok (.invokevirtual 81, 3) := by decide +kernel
theorem dX8_isAwayIn_24 : decode cX8_isAwayIn 24 = .ok (.istore 6, 2) := by decide +kernel
theorem dX8_isAwayIn_26 : decode cX8_isAwayIn 26 = .ok (.iload 4, 2) := by decide +kernel
theorem dX8_isAwayIn_28 : decode cX8_isAwayIn 28 = .ok (.ifCond .ne 36, 3) := by decide +kernel
theorem dX8_isAwayIn_31 : decode cX8_isAwayIn 31 = .ok (.aload_n 0, 1) := by decide +kernel
theorem dX8_isAwayIn_32 : decode cX8_isAwayIn 32 = .ok (.iload 5, 2) := by decide +kernel
theorem dX8_isAwayIn_34 : decode cX8_isAwayIn 34 = .ok (.iconst 0, 1) := by decide +kernel
theorem dX8_isAwayIn_35 : decode cX8_isAwayIn 35 = .ok (.invokevirtual 81, 3) := by decide +kernel
theorem dX8_isAwayIn_38 : decode cX8_isAwayIn 38 = .ok (.iload_n 1, 1) := by decide +kernel
theorem dX8_isAwayIn_39 : decode cX8_isAwayIn 39 = .ok (.if_icmp .ne 29, 3) := by decide +kernel
theorem dX8_isAwayIn_42 : decode cX8_isAwayIn 42 = .ok (.iload_n 2, 1) := by decide +kernel
theorem dX8_isAwayIn_43 : decode cX8_isAwayIn 43 = .ok (.iload 6, 2) := by decide +kernel
theorem dX8_isAwayIn_45 : decode cX8_isAwayIn 45 = .ok (.aload_n 0, 1) := by decide +kernel
theorem dX8_isAwayIn_46 : decode cX8_isAwayIn 46 = .ok (.iload 5, 2) := by decide +kernel
theorem dX8_isAwayIn_48 : decode cX8_isAwayIn 48 = .ok (.iconst 2, 1) := by decide +kernel
theorem dX8_isAwayIn_49 : decode cX8_isAwayIn 49 = .ok (.invokevirtual 81, 3) := by decide +kernel
theorem dX8_isAwayIn_52 : decode cX8_isAwayIn 52 = .ok (.iadd, 1) := by decide +kernel
theorem dX8_isAwayIn_53 : decode cX8_isAwayIn 53 = .ok (.if_icmp .ge 15, 3) := by decide +kernel
theorem dX8_isAwayIn_56 : decode cX8_isAwayIn 56 = .ok (.iload 6, 2) := by decide +kernel
theorem dX8_isAwayIn_58 : decode cX8_isAwayIn 58 = .ok (.iload_n 2, 1) := by decide +kernel
theorem dX8_isAwayIn_59 : decode cX8_isAwayIn 59 = .ok (.iload_n 3, 1) := by decide +kernel
theorem dX8_isAwayIn_60 : decode cX8_isAwayIn 60 = .ok (.iadd, 1) := by decide +kernel
theorem dX8_isAwayIn_61 : decode cX8_isAwayIn 61 = .ok (.if_icmp .ge 7, 3) := by decide +kernel
theorem dX8_isAwayIn_64 : decode cX8_isAwayIn 64 = .ok (.iconst 1, 1) := by decide +kernel
theorem dX8_isAwayIn_65 : decode cX8_isAwayIn 65 = .ok (.goto 4, 3) := by decide +kernel
theorem dX8_isAwayIn_68 : decode cX8_isAwayIn 68 = .ok (.iconst 0, 1) := by decide +kernel
theorem dX8_isAwayIn_69 : decode cX8_isAwayIn 69 = .ok (.istore 4, 2) := by decide +kernel
theorem dX8_isAwayIn_71 : decode cX8_isAwayIn 71 = .ok (.iinc 5 1, 3) := by decide +kernel
theorem dX8_isAwayIn_74 : decode cX8_isAwayIn 74 = .ok (.goto (-68), 3) := by decide +kernel
theorem dX8_isAwayIn_77 : decode cX8_isAwayIn 77 = .ok (.iload 4, 2) := by decide +kernel
theorem dX8_isAwayIn_79 : decode cX8_isAwayIn 79 = .ok (.ireturn, 1) := by decide +kernel
set_option maxRecDepth 20000 in
theorem ggX8_hire_X8_isCostume : GoodIn wsX8_hire wsX8_isCostume := goodIn_r _ [10, 2, 11, 12, 9, 13, 31, 32, 33, 34, 35, 36, 37, 38, 39, 40, 41, 42] (by decide +kernel) (by decide +kernel)
set_option maxRecDepth 20000 in
theorem gX8_hire_X8_isCostume : GoodIn wsX8_hire (wsV RX8 58 RX8 yX8_isCostume wsX8_isCostume) := goodIn_app (goodIn_of _ (by decide +kernel)) ggX8_hire_X8_isCostume
set_option maxRecDepth 20000 in
theorem ggX8_hire_X8_in : GoodIn wsX8_hire wsX8_in := goodIn_r _ [13] (by decide +kernel) (by decide +kernel)
set_option maxRecDepth 20000 in
theorem gX8_hire_X8_in : GoodIn wsX8_hire (va_wsS RX8 32 yX8_in wsX8_in) := goodIn_app (goodIn_of _ (by decide +kernel)) ggX8_hire_X8_in
set_option maxRecDepth 20000 in
theorem ggX8_hire_X8_isAwayIn : GoodIn wsX8_hire wsX8_isAwayIn := goodIn_r _ [17, 2, 18, 19, 20, 9, 21, 31, 32, 33, 34, 35, 36, 37, 38, 39, 40, 41, 42] (by decide +kernel) (by decide +kernel)
set_option maxRecDepth 20000 in
theorem gX8_hire_X8_isAwayIn : GoodIn wsX8_hire (wsV RX8 209 RX8 yX8_isAwayIn wsX8_isAwayIn) := goodIn_app (goodIn_of _ (by decide +kernel)) ggX8_hire_X8_isAwayIn
set_option maxRecDepth 20000 in
theorem ggX8_hire_X8_act : GoodIn wsX8_hire wsX8_act := goodIn_r _ [25, 26, 27, 2, 31, 32, 33, 34, 35, 36, 37, 38, 39, 40, 41, 42] (by decide +kernel) (by decide +kernel)
set_option maxRecDepth 20000 in
theorem gX8_hire_X8_act : GoodIn wsX8_hire (wsV RX8 29 RX8 yX8_act wsX8_act) := goodIn_app (goodIn_of _ (by decide +kernel)) ggX8_hire_X8_act
set_option maxRecDepth 20000 in
theorem ggX8_hire_X8_feeOf : GoodIn wsX8_hire wsX8_feeOf := goodIn_r _ [30] (by decide +kernel) (by decide +kernel)
set_option maxRecDepth 20000 in
theorem gX8_hire_X8_feeOf : GoodIn wsX8_hire (va_wsS RX8 212 yX8_feeOf wsX8_feeOf) := goodIn_app (goodIn_of _ (by decide +kernel)) ggX8_hire_X8_feeOf
theorem dX8_hire_0 : decode cX8_hire 0 = .ok (.aload_n 0, 1) := by decide +kernel
theorem dX8_hire_1 : decode cX8_hire 1 = .ok (.iconst 0, 1) := by decide +kernel
theorem dX8_hire_2 : decode cX8_hire 2 = .ok (.putfield 22, 3) := by decide +kernel
theorem dX8_hire_5 : decode cX8_hire 5 = .ok (.aload_n 0, 1) := by decide +kernel
theorem dX8_hire_6 : decode cX8_hire 6 = .ok (.iload_n 1, 1) := by decide +kernel
theorem dX8_hire_7 : decode cX8_hire 7 = .ok (.invokevirtual 58, 3) := by decide +kernel
theorem dX8_hire_10 : decode cX8_hire 10 = .ok (.ifCond .eq 46, 3) := by decide +kernel
theorem dX8_hire_13 : decode cX8_hire 13 = .ok (.iload_n 2, 1) := by decide +kernel
theorem dX8_hire_14 : decode cX8_hire 14 = .ok (.i2l, 1) := by decide +kernel
theorem dX8_hire_15 : decode cX8_hire 15 = .ok (.aload_n 0, 1) := by decide +kernel
theorem dX8_hire_16 : decode cX8_hire 16 = .ok (.getfield 7, 3) := by decide +kernel
theorem dX8_hire_19 : decode cX8_hire 19 = .ok (.iconst 3, 1) := by decide +kernel
theorem dX8_hire_20 : decode cX8_hire 20 = .ok (.iaload, 1) := by decide +kernel
theorem dX8_hire_21 : decode cX8_hire 21 = .ok (.i2l, 1) := by decide +kernel
theorem dX8_hire_22 : decode cX8_hire 22 = .ok (.ldc2_w 205, 3) := by decide +kernel
theorem dX8_hire_25 : decode cX8_hire 25 = .ok (.invokestatic 32, 3) := by decide +kernel
theorem dX8_hire_28 : decode cX8_hire 28 = .ok (.ifCond .eq 28, 3) := by decide +kernel
theorem dX8_hire_31 : decode cX8_hire 31 = .ok (.iload_n 3, 1) := by decide +kernel
theorem dX8_hire_32 : decode cX8_hire 32 = .ok (.i2l, 1) := by decide +kernel
theorem dX8_hire_33 : decode cX8_hire 33 = .ok (.lconst 1, 1) := by decide +kernel
theorem dX8_hire_34 : decode cX8_hire 34 = .ok (.ldc2_w 203, 3) := by decide +kernel
theorem dX8_hire_37 : decode cX8_hire 37 = .ok (.invokestatic 32, 3) := by decide +kernel
theorem dX8_hire_40 : decode cX8_hire 40 = .ok (.ifCond .eq 16, 3) := by decide +kernel
theorem dX8_hire_43 : decode cX8_hire 43 = .ok (.iload 4, 2) := by decide +kernel
theorem dX8_hire_45 : decode cX8_hire 45 = .ok (.i2l, 1) := by decide +kernel
theorem dX8_hire_46 : decode cX8_hire 46 = .ok (.lconst 1, 1) := by decide +kernel
theorem dX8_hire_47 : decode cX8_hire 47 = .ok (.ldc2_w 207, 3) := by decide +kernel
theorem dX8_hire_50 : decode cX8_hire 50 = .ok (.invokestatic 32, 3) := by decide +kernel
theorem dX8_hire_53 : decode cX8_hire 53 = .ok (.ifCond .ne 7, 3) := by decide +kernel
theorem dX8_hire_56 : decode cX8_hire 56 = .ok (.sipush (-2001), 3) := by decide +kernel
theorem dX8_hire_59 : decode cX8_hire 59 = .ok (.ireturn, 1) := by decide +kernel
theorem dX8_hire_60 : decode cX8_hire 60 = .ok (.aload_n 0, 1) := by decide +kernel
theorem dX8_hire_61 : decode cX8_hire 61 = .ok (.iload_n 1, 1) := by decide +kernel
theorem dX8_hire_62 : decode cX8_hire 62 = .ok (.iload_n 2, 1) := by decide +kernel
theorem dX8_hire_63 : decode cX8_hire 63 = .ok (.iload_n 3, 1) := by decide +kernel
theorem dX8_hire_64 : decode cX8_hire 64 = .ok (.invokevirtual 209, 3) := by decide +kernel
theorem dX8_hire_67 : decode cX8_hire 67 = .ok (.ifCond .eq 7, 3) := by decide +kernel
theorem dX8_hire_70 : decode cX8_hire 70 = .ok (.sipush (-2002), 3) := by decide +kernel
theorem dX8_hire_73 : decode cX8_hire 73 = .ok (.ireturn, 1) := by decide +kernel
theorem dX8_hire_74 : decode cX8_hire 74 = .ok (.aload_n 0, 1) := by decide +kernel
theorem dX8_hire_75 : decode cX8_hire 75 = .ok (.getfield 7, 3) := by decide +kernel
theorem dX8_hire_78 : decode cX8_hire 78 = .ok (.iconst 2, 1) := by decide +kernel
theorem dX8_hire_79 : decode cX8_hire 79 = .ok (.iaload, 1) := by decide +kernel
theorem dX8_hire_80 : decode cX8_hire 80 = .ok (.bipush 24, 2) := by decide +kernel
theorem dX8_hire_82 : decode cX8_hire 82 = .ok (.if_icmp .ne 7, 3) := by decide +kernel
theorem dX8_hire_85 : decode cX8_hire 85 = .ok (.sipush (-2003), 3) := by decide +kernel
theorem dX8_hire_88 : decode cX8_hire 88 = .ok (.ireturn, 1) := by decide +kernel
theorem dX8_hire_89 : decode cX8_hire 89 = .ok (.aload_n 0, 1) := by decide +kernel
theorem dX8_hire_90 : decode cX8_hire 90 = .ok (.invokevirtual 29, 3) := by decide +kernel
theorem dX8_hire_93 : decode cX8_hire 93 = .ok (.sipush 452, 3) := by decide +kernel
theorem dX8_hire_96 : decode cX8_hire 96 = .ok (.iconst 5, 1) := by decide +kernel
theorem dX8_hire_97 : decode cX8_hire 97 = .ok (.aload_n 0, 1) := by decide +kernel
theorem dX8_hire_98 : decode cX8_hire 98 = .ok (.getfield 7, 3) := by decide +kernel
theorem dX8_hire_101 : decode cX8_hire 101 = .ok (.iconst 2, 1) := by decide +kernel
theorem dX8_hire_102 : decode cX8_hire 102 = .ok (.iaload, 1) := by decide +kernel
theorem dX8_hire_103 : decode cX8_hire 103 = .ok (.imul, 1) := by decide +kernel
theorem dX8_hire_104 : decode cX8_hire 104 = .ok (.iadd, 1) := by decide +kernel
theorem dX8_hire_105 : decode cX8_hire 105 = .ok (.istore 5, 2) := by decide +kernel
theorem dX8_hire_107 : decode cX8_hire 107 = .ok (.aload_n 0, 1) := by decide +kernel
theorem dX8_hire_108 : decode cX8_hire 108 = .ok (.getfield 7, 3) := by decide +kernel
theorem dX8_hire_111 : decode cX8_hire 111 = .ok (.iconst 2, 1) := by decide +kernel
theorem dX8_hire_112 : decode cX8_hire 112 = .ok (.dup2, 1) := by decide +kernel
theorem dX8_hire_113 : decode cX8_hire 113 = .ok (.iaload, 1) := by decide +kernel
theorem dX8_hire_114 : decode cX8_hire 114 = .ok (.iconst 1, 1) := by decide +kernel
theorem dX8_hire_115 : decode cX8_hire 115 = .ok (.iadd, 1) := by decide +kernel
theorem dX8_hire_116 : decode cX8_hire 116 = .ok (.iastore, 1) := by decide +kernel
theorem dX8_hire_117 : decode cX8_hire 117 = .ok (.aload_n 0, 1) := by decide +kernel
theorem dX8_hire_118 : decode cX8_hire 118 = .ok (.getfield 7, 3) := by decide +kernel
theorem dX8_hire_121 : decode cX8_hire 121 = .ok (.iload 5, 2) := by decide +kernel
theorem dX8_hire_123 : decode cX8_hire 123 = .ok (.iconst 0, 1) := by decide +kernel
theorem dX8_hire_124 : decode cX8_hire 124 = .ok (.iadd, 1) := by decide +kernel
theorem dX8_hire_125 : decode cX8_hire 125 = .ok (.iload_n 1, 1) := by decide +kernel
theorem dX8_hire_126 : decode cX8_hire 126 = .ok (.iastore, 1) := by decide +kernel
theorem dX8_hire_127 : decode cX8_hire 127 = .ok (.aload_n 0, 1) := by decide +kernel
theorem dX8_hire_128 : decode cX8_hire 128 = .ok (.getfield 7, 3) := by decide +kernel
theorem dX8_hire_131 : decode cX8_hire 131 = .ok (.iload 5, 2) := by decide +kernel
theorem dX8_hire_133 : decode cX8_hire 133 = .ok (.iconst 1, 1) := by decide +kernel
theorem dX8_hire_134 : decode cX8_hire 134 = .ok (.iadd, 1) := by decide +kernel
theorem dX8_hire_135 : decode cX8_hire 135 = .ok (.iload_n 2, 1) := by decide +kernel
theorem dX8_hire_136 : decode cX8_hire 136 = .ok (.iastore, 1) := by decide +kernel
theorem dX8_hire_137 : decode cX8_hire 137 = .ok (.aload_n 0, 1) := by decide +kernel
theorem dX8_hire_138 : decode cX8_hire 138 = .ok (.getfield 7, 3) := by decide +kernel
theorem dX8_hire_141 : decode cX8_hire 141 = .ok (.iload 5, 2) := by decide +kernel
theorem dX8_hire_143 : decode cX8_hire 143 = .ok (.iconst 2, 1) := by decide +kernel
theorem dX8_hire_144 : decode cX8_hire 144 = .ok (.iadd, 1) := by decide +kernel
theorem dX8_hire_145 : decode cX8_hire 145 = .ok (.iload_n 3, 1) := by decide +kernel
theorem dX8_hire_146 : decode cX8_hire 146 = .ok (.iastore, 1) := by decide +kernel
theorem dX8_hire_147 : decode cX8_hire 147 = .ok (.aload_n 0, 1) := by decide +kernel
theorem dX8_hire_148 : decode cX8_hire 148 = .ok (.getfield 7, 3) := by decide +kernel
theorem dX8_hire_151 : decode cX8_hire 151 = .ok (.iload 5, 2) := by decide +kernel
theorem dX8_hire_153 : decode cX8_hire 153 = .ok (.iconst 3, 1) := by decide +kernel
theorem dX8_hire_154 : decode cX8_hire 154 = .ok (.iadd, 1) := by decide +kernel
theorem dX8_hire_155 : decode cX8_hire 155 = .ok (.iload_n 3, 1) := by decide +kernel
theorem dX8_hire_156 : decode cX8_hire 156 = .ok (.iload 4, 2) := by decide +kernel
theorem dX8_hire_158 : decode cX8_hire 158 = .ok (.invokestatic 212, 3) := by decide +kernel
theorem dX8_hire_161 : decode cX8_hire 161 = .ok (.iastore, 1) := by decide +kernel
theorem dX8_hire_162 : decode cX8_hire 162 = .ok (.aload_n 0, 1) := by decide +kernel
theorem dX8_hire_163 : decode cX8_hire 163 = .ok (.getfield 7, 3) := by decide +kernel
theorem dX8_hire_166 : decode cX8_hire 166 = .ok (.iload 5, 2) := by decide +kernel
theorem dX8_hire_168 : decode cX8_hire 168 = .ok (.iconst 4, 1) := by decide +kernel
theorem dX8_hire_169 : decode cX8_hire 169 = .ok (.iadd, 1) := by decide +kernel
theorem dX8_hire_170 : decode cX8_hire 170 = .ok (.iload 4, 2) := by decide +kernel
theorem dX8_hire_172 : decode cX8_hire 172 = .ok (.iastore, 1) := by decide +kernel
theorem dX8_hire_173 : decode cX8_hire 173 = .ok (.aload_n 0, 1) := by decide +kernel
theorem dX8_hire_174 : decode cX8_hire 174 = .ok (.getfield 7, 3) := by decide +kernel
theorem dX8_hire_177 : decode cX8_hire 177 = .ok (.iconst 5, 1) := by decide +kernel
theorem dX8_hire_178 : decode cX8_hire 178 = .ok (.dup2, 1) := by decide +kernel
theorem dX8_hire_179 : decode cX8_hire 179 = .ok (.iaload, 1) := by decide +kernel
theorem dX8_hire_180 : decode cX8_hire 180 = .ok (.aload_n 0, 1) := by decide +kernel
theorem dX8_hire_181 : decode cX8_hire 181 = .ok (.getfield 7, 3) := by decide +kernel
theorem dX8_hire_184 : decode cX8_hire 184 = .ok (.iload 5, 2) := by decide +kernel
theorem dX8_hire_186 : decode cX8_hire 186 = .ok (.iconst 3, 1) := by decide +kernel
theorem dX8_hire_187 : decode cX8_hire 187 = .ok (.iadd, 1) := by decide +kernel
theorem dX8_hire_188 : decode cX8_hire 188 = .ok (.iaload, 1) := by decide +kernel
theorem dX8_hire_189 : decode cX8_hire 189 = .ok (.iadd, 1) := by decide +kernel
theorem dX8_hire_190 : decode cX8_hire 190 = .ok (.iastore, 1) := by decide +kernel
theorem dX8_hire_191 : decode cX8_hire 191 = .ok (.aload_n 0, 1) := by decide +kernel
theorem dX8_hire_192 : decode cX8_hire 192 = .ok (.getfield 7, 3) := by decide +kernel
theorem dX8_hire_195 : decode cX8_hire 195 = .ok (.iload 5, 2) := by decide +kernel
theorem dX8_hire_197 : decode cX8_hire 197 = .ok (.iconst 3, 1) := by decide +kernel
theorem dX8_hire_198 : decode cX8_hire 198 = .ok (.iadd, 1) := by decide +kernel
theorem dX8_hire_199 : decode cX8_hire 199 = .ok (.iaload, 1) := by decide +kernel
theorem dX8_hire_200 : decode cX8_hire 200 = .ok (.ireturn, 1) := by decide +kernel
set_option maxRecDepth 20000 in
theorem ggX8_endHire_X8_in : GoodIn wsX8_endHire wsX8_in := goodIn_r _ [6] (by decide +kernel) (by decide +kernel)
set_option maxRecDepth 20000 in
theorem gX8_endHire_X8_in : GoodIn wsX8_endHire (va_wsS RX8 32 yX8_in wsX8_in) := goodIn_app (goodIn_of _ (by decide +kernel)) ggX8_endHire_X8_in
set_option maxRecDepth 20000 in
theorem ggX8_endHire_X8_ofHire : GoodIn wsX8_endHire wsX8_ofHire := goodIn_r _ [10, 2, 20, 21, 22, 23, 24, 25, 26, 27, 28, 29, 30, 31] (by decide +kernel) (by decide +kernel)
set_option maxRecDepth 20000 in
theorem gX8_endHire_X8_ofHire : GoodIn wsX8_endHire (wsV RX8 81 RX8 yX8_ofHire wsX8_ofHire) := goodIn_app (goodIn_of _ (by decide +kernel)) ggX8_endHire_X8_ofHire
set_option maxRecDepth 20000 in
theorem ggX8_endHire_X8_act : GoodIn wsX8_endHire wsX8_act := goodIn_r _ [14, 15, 16, 2, 20, 21, 22, 23, 24, 25, 26, 27, 28, 29, 30, 31] (by decide +kernel) (by decide +kernel)
set_option maxRecDepth 20000 in
theorem gX8_endHire_X8_act : GoodIn wsX8_endHire (wsV RX8 29 RX8 yX8_act wsX8_act) := goodIn_app (goodIn_of _ (by decide +kernel)) ggX8_endHire_X8_act
set_option maxRecDepth 20000 in
theorem ggX8_endHire_X8_feeOf : GoodIn wsX8_endHire wsX8_feeOf := goodIn_r _ [19] (by decide +kernel) (by decide +kernel)
set_option maxRecDepth 20000 in
theorem gX8_endHire_X8_feeOf : GoodIn wsX8_endHire (va_wsS RX8 212 yX8_feeOf wsX8_feeOf) := goodIn_app (goodIn_of _ (by decide +kernel)) ggX8_endHire_X8_feeOf
theorem dX8_endHire_0 : decode cX8_endHire 0 = .ok (.aload_n 0, 1) := by decide +kernel
theorem dX8_endHire_1 : decode cX8_endHire 1 = .ok (.iconst 0, 1) := by decide +kernel
theorem dX8_endHire_2 : decode cX8_endHire 2 = .ok (.putfield 22, 3) := by decide +kernel
theorem dX8_endHire_5 : decode cX8_endHire 5 = .ok (.iload_n 1, 1) := by decide +kernel
theorem dX8_endHire_6 : decode cX8_endHire 6 = .ok (.i2l, 1) := by decide +kernel
theorem dX8_endHire_7 : decode cX8_endHire 7 = .ok (.lconst 0, 1) := by decide +kernel
theorem dX8_endHire_8 : decode cX8_endHire 8 = .ok (.aload_n 0, 1) := by decide +kernel
theorem dX8_endHire_9 : decode cX8_endHire 9 = .ok (.getfield 7, 3) := by decide +kernel
theorem dX8_endHire_12 : decode cX8_endHire 12 = .ok (.iconst 2, 1) := by decide +kernel
theorem dX8_endHire_13 : decode cX8_endHire 13 = .ok (.iaload, 1) := by decide +kernel
theorem dX8_endHire_14 : decode cX8_endHire 14 = .ok (.iconst 1, 1) := by decide +kernel
theorem dX8_endHire_15 : decode cX8_endHire 15 = .ok (.isub, 1) := by decide +kernel
theorem dX8_endHire_16 : decode cX8_endHire 16 = .ok (.i2l, 1) := by decide +kernel
theorem dX8_endHire_17 : decode cX8_endHire 17 = .ok (.invokestatic 32, 3) := by decide +kernel
theorem dX8_endHire_20 : decode cX8_endHire 20 = .ok (.ifCond .ne 7, 3) := by decide +kernel
theorem dX8_endHire_23 : decode cX8_endHire 23 = .ok (.sipush (-2001), 3) := by decide +kernel
theorem dX8_endHire_26 : decode cX8_endHire 26 = .ok (.ireturn, 1) := by decide +kernel
theorem dX8_endHire_27 : decode cX8_endHire 27 = .ok (.aload_n 0, 1) := by decide +kernel
theorem dX8_endHire_28 : decode cX8_endHire 28 = .ok (.getfield 7, 3) := by decide +kernel
theorem dX8_endHire_31 : decode cX8_endHire 31 = .ok (.iconst 3, 1) := by decide +kernel
theorem dX8_endHire_32 : decode cX8_endHire 32 = .ok (.iaload, 1) := by decide +kernel
theorem dX8_endHire_33 : decode cX8_endHire 33 = .ok (.aload_n 0, 1) := by decide +kernel
theorem dX8_endHire_34 : decode cX8_endHire 34 = .ok (.iload_n 1, 1) := by decide +kernel
theorem dX8_endHire_35 : decode cX8_endHire 35 = .ok (.iconst 1, 1) := by decide +kernel
theorem dX8_endHire_36 : decode cX8_endHire 36 = .ok (.invokevirtual 81, 3) := by decide +kernel
theorem dX8_endHire_39 : decode cX8_endHire 39 = .ok (.isub, 1) := by decide +kernel
theorem dX8_endHire_40 : decode cX8_endHire 40 = .ok (.iconst 1, 1) := by decide +kernel
theorem dX8_endHire_41 : decode cX8_endHire 41 = .ok (.iadd, 1) := by decide +kernel
theorem dX8_endHire_42 : decode cX8_endHire 42 = .ok (.istore_n 2, 1) := by decide +kernel
theorem dX8_endHire_43 : decode cX8_endHire 43 = .ok (.iload_n 2, 1) := by decide +kernel
theorem dX8_endHire_44 : decode cX8_endHire 44 = .ok (.i2l, 1) := by decide +kernel
theorem dX8_endHire_45 : decode cX8_endHire 45 = .ok (.lconst 1, 1) := by decide +kernel
theorem dX8_endHire_46 : decode cX8_endHire 46 = .ok (.aload_n 0, 1) := by decide +kernel
theorem dX8_endHire_47 : decode cX8_endHire 47 = .ok (.iload_n 1, 1) := by decide +kernel
theorem dX8_endHire_48 : decode cX8_endHire 48 = .ok (.iconst 2, 1) := by decide +kernel
theorem dX8_endHire_49 : decode cX8_endHire 49 = .ok (.invokevirtual 81, 3) := by decide +kernel
theorem dX8_endHire_52 : decode cX8_endHire 52 = .ok (.iconst 1, 1) := by decide +kernel
theorem dX8_endHire_53 : decode cX8_endHire 53 = .ok (.isub, 1) := by decide +kernel
theorem dX8_endHire_54 : decode cX8_endHire 54 = .ok (.i2l, 1) := by decide +kernel
theorem dX8_endHire_55 : decode cX8_endHire 55 = .ok (.invokestatic 32, 3) := by decide +kernel
theorem dX8_endHire_58 : decode cX8_endHire 58 = .ok (.ifCond .ne 7, 3) := by decide +kernel
theorem dX8_endHire_61 : decode cX8_endHire 61 = .ok (.sipush (-2002), 3) := by decide +kernel
theorem dX8_endHire_64 : decode cX8_endHire 64 = .ok (.ireturn, 1) := by decide +kernel
theorem dX8_endHire_65 : decode cX8_endHire 65 = .ok (.aload_n 0, 1) := by decide +kernel
theorem dX8_endHire_66 : decode cX8_endHire 66 = .ok (.invokevirtual 29, 3) := by decide +kernel
theorem dX8_endHire_69 : decode cX8_endHire 69 = .ok (.sipush 452, 3) := by decide +kernel
theorem dX8_endHire_72 : decode cX8_endHire 72 = .ok (.iconst 5, 1) := by decide +kernel
theorem dX8_endHire_73 : decode cX8_endHire 73 = .ok (.iload_n 1, 1) := by decide +kernel
theorem dX8_endHire_74 : decode cX8_endHire 74 = .ok (.imul, 1) := by decide +kernel
theorem dX8_endHire_75 : decode cX8_endHire 75 = .ok (.iadd, 1) := by decide +kernel
theorem dX8_endHire_76 : decode cX8_endHire 76 = .ok (.istore_n 3, 1) := by decide +kernel
theorem dX8_endHire_77 : decode cX8_endHire 77 = .ok (.aload_n 0, 1) := by decide +kernel
theorem dX8_endHire_78 : decode cX8_endHire 78 = .ok (.getfield 7, 3) := by decide +kernel
theorem dX8_endHire_81 : decode cX8_endHire 81 = .ok (.iload_n 3, 1) := by decide +kernel
theorem dX8_endHire_82 : decode cX8_endHire 82 = .ok (.iconst 3, 1) := by decide +kernel
theorem dX8_endHire_83 : decode cX8_endHire 83 = .ok (.iadd, 1) := by decide +kernel
theorem dX8_endHire_84 : decode cX8_endHire 84 = .ok (.iaload, 1) := by decide +kernel
theorem dX8_endHire_85 : decode cX8_endHire 85 = .ok (.iload_n 2, 1) := by decide +kernel
theorem dX8_endHire_86 : decode cX8_endHire 86 = .ok (.aload_n 0, 1) := by decide +kernel
theorem dX8_endHire_87 : decode cX8_endHire 87 = .ok (.getfield 7, 3) := by decide +kernel
theorem dX8_endHire_90 : decode cX8_endHire 90 = .ok (.iload_n 3, 1) := by decide +kernel
theorem dX8_endHire_91 : decode cX8_endHire 91 = .ok (.iconst 4, 1) := by decide +kernel
theorem dX8_endHire_92 : decode cX8_endHire 92 = .ok (.iadd, 1) := by decide +kernel
theorem dX8_endHire_93 : decode cX8_endHire 93 = .ok (.iaload, 1) := by decide +kernel
theorem dX8_endHire_94 : decode cX8_endHire 94 = .ok (.invokestatic 212, 3) := by decide +kernel
theorem dX8_endHire_97 : decode cX8_endHire 97 = .ok (.isub, 1) := by decide +kernel
theorem dX8_endHire_98 : decode cX8_endHire 98 = .ok (.iconst 2, 1) := by decide +kernel
theorem dX8_endHire_99 : decode cX8_endHire 99 = .ok (.idiv, 1) := by decide +kernel
theorem dX8_endHire_100 : decode cX8_endHire 100 = .ok (.istore 4, 2) := by decide +kernel
theorem dX8_endHire_102 : decode cX8_endHire 102 = .ok (.aload_n 0, 1) := by decide +kernel
theorem dX8_endHire_103 : decode cX8_endHire 103 = .ok (.getfield 7, 3) := by decide +kernel
theorem dX8_endHire_106 : decode cX8_endHire 106 = .ok (.iload_n 3, 1) := by decide +kernel
theorem dX8_endHire_107 : decode cX8_endHire 107 = .ok (.iconst 2, 1) := by decide +kernel
theorem dX8_endHire_108 : decode cX8_endHire 108 = .ok (.iadd, 1) := by decide +kernel
theorem dX8_endHire_109 : decode cX8_endHire 109 = .ok (.iload_n 2, 1) := by decide +kernel
theorem dX8_endHire_110 : decode cX8_endHire 110 = .ok (.iastore, 1) := by decide +kernel
theorem dX8_endHire_111 : decode cX8_endHire 111 = .ok (.aload_n 0, 1) := by decide +kernel
theorem dX8_endHire_112 : decode cX8_endHire 112 = .ok (.getfield 7, 3) := by decide +kernel
theorem dX8_endHire_115 : decode cX8_endHire 115 = .ok (.iload_n 3, 1) := by decide +kernel
theorem dX8_endHire_116 : decode cX8_endHire 116 = .ok (.iconst 3, 1) := by decide +kernel
theorem dX8_endHire_117 : decode cX8_endHire 117 = .ok (.iadd, 1) := by decide +kernel
theorem dX8_endHire_118 : decode cX8_endHire 118 = .ok (.dup2, 1) := by decide +kernel
theorem dX8_endHire_119 : decode cX8_endHire 119 = .ok (.iaload, 1) := by decide +kernel
theorem dX8_endHire_120 : decode cX8_endHire 120 = .ok (.iload 4, 2) := by decide +kernel
theorem dX8_endHire_122 : decode cX8_endHire 122 = .ok (.isub, 1) := by decide +kernel
theorem dX8_endHire_123 : decode cX8_endHire 123 = .ok (.iastore, 1) := by decide +kernel
theorem dX8_endHire_124 : decode cX8_endHire 124 = .ok (.aload_n 0, 1) := by decide +kernel
theorem dX8_endHire_125 : decode cX8_endHire 125 = .ok (.getfield 7, 3) := by decide +kernel
theorem dX8_endHire_128 : decode cX8_endHire 128 = .ok (.iconst 5, 1) := by decide +kernel
theorem dX8_endHire_129 : decode cX8_endHire 129 = .ok (.dup2, 1) := by decide +kernel
theorem dX8_endHire_130 : decode cX8_endHire 130 = .ok (.iaload, 1) := by decide +kernel
theorem dX8_endHire_131 : decode cX8_endHire 131 = .ok (.iload 4, 2) := by decide +kernel
theorem dX8_endHire_133 : decode cX8_endHire 133 = .ok (.isub, 1) := by decide +kernel
theorem dX8_endHire_134 : decode cX8_endHire 134 = .ok (.iastore, 1) := by decide +kernel
theorem dX8_endHire_135 : decode cX8_endHire 135 = .ok (.iload 4, 2) := by decide +kernel
theorem dX8_endHire_137 : decode cX8_endHire 137 = .ok (.ireturn, 1) := by decide +kernel
theorem dX8_canWash_0 : decode cX8_canWash 0 = .ok (.iload_n 1, 1) := by decide +kernel
theorem dX8_canWash_1 : decode cX8_canWash 1 = .ok (.ifCond .ne 16, 3) := by decide +kernel
theorem dX8_canWash_4 : decode cX8_canWash 4 = .ok (.iload_n 0, 1) := by decide +kernel
theorem dX8_canWash_5 : decode cX8_canWash 5 = .ok (.iconst 3, 1) := by decide +kernel
theorem dX8_canWash_6 : decode cX8_canWash 6 = .ok (.if_icmp .ge 7, 3) := by decide +kernel
theorem dX8_canWash_9 : decode cX8_canWash 9 = .ok (.iconst 1, 1) := by decide +kernel
theorem dX8_canWash_10 : decode cX8_canWash 10 = .ok (.goto 17, 3) := by decide +kernel
theorem dX8_canWash_13 : decode cX8_canWash 13 = .ok (.iconst 0, 1) := by decide +kernel
theorem dX8_canWash_14 : decode cX8_canWash 14 = .ok (.goto 13, 3) := by decide +kernel
theorem dX8_canWash_17 : decode cX8_canWash 17 = .ok (.iload_n 0, 1) := by decide +kernel
theorem dX8_canWash_18 : decode cX8_canWash 18 = .ok (.iload_n 1, 1) := by decide +kernel
theorem dX8_canWash_19 : decode cX8_canWash 19 = .ok (.if_icmp .lt 7, 3) := by decide +kernel
theorem dX8_canWash_22 : decode cX8_canWash 22 = .ok (.iconst 1, 1) := by decide +kernel
theorem dX8_canWash_23 : decode cX8_canWash 23 = .ok (.goto 4, 3) := by decide +kernel
theorem dX8_canWash_26 : decode cX8_canWash 26 = .ok (.iconst 0, 1) := by decide +kernel
theorem dX8_canWash_27 : decode cX8_canWash 27 = .ok (.ireturn, 1) := by decide +kernel
theorem dX8_has_0 : decode cX8_has 0 = .ok (.iload_n 0, 1) := by decide +kernel
theorem dX8_has_1 : decode cX8_has 1 = .ok (.iload_n 1, 1) := by decide +kernel
theorem dX8_has_2 : decode cX8_has 2 = .ok (.ishr, 1) := by decide +kernel
theorem dX8_has_3 : decode cX8_has 3 = .ok (.iconst 1, 1) := by decide +kernel
theorem dX8_has_4 : decode cX8_has 4 = .ok (.iand, 1) := by decide +kernel
theorem dX8_has_5 : decode cX8_has 5 = .ok (.iconst 1, 1) := by decide +kernel
theorem dX8_has_6 : decode cX8_has 6 = .ok (.if_icmp .ne 7, 3) := by decide +kernel
theorem dX8_has_9 : decode cX8_has 9 = .ok (.iconst 1, 1) := by decide +kernel
theorem dX8_has_10 : decode cX8_has 10 = .ok (.goto 4, 3) := by decide +kernel
theorem dX8_has_13 : decode cX8_has 13 = .ok (.iconst 0, 1) := by decide +kernel
theorem dX8_has_14 : decode cX8_has 14 = .ok (.ireturn, 1) := by decide +kernel
set_option maxRecDepth 20000 in
theorem ggX8_isLoadAllowed_X8_has : GoodIn wsX8_isLoadAllowed wsX8_has := goodIn_r _ [5] (by decide +kernel) (by decide +kernel)
set_option maxRecDepth 20000 in
theorem gX8_isLoadAllowed_X8_has : GoodIn wsX8_isLoadAllowed (va_wsS RX8 215 yX8_has wsX8_has) := goodIn_app (goodIn_of _ (by decide +kernel)) ggX8_isLoadAllowed_X8_has
set_option maxRecDepth 20000 in
theorem ggX8_isLoadAllowed_X8_of : GoodIn wsX8_isLoadAllowed wsX8_of := goodIn_r _ [9, 1, 28, 29, 30, 31, 32, 33, 34, 35, 36, 37, 38, 39] (by decide +kernel) (by decide +kernel)
set_option maxRecDepth 20000 in
theorem gX8_isLoadAllowed_X8_of : GoodIn wsX8_isLoadAllowed (wsV RX8 75 RX8 yX8_of wsX8_of) := goodIn_app (goodIn_of _ (by decide +kernel)) ggX8_isLoadAllowed_X8_of
set_option maxRecDepth 20000 in
theorem ggX8_isLoadAllowed_X8_isAwayToday : GoodIn wsX8_isLoadAllowed wsX8_isAwayToday := goodIn_r _ [13, 1, 14, 15, 16, 4, 17, 18, 19, 20, 21, 22, 23, 24, 28, 29, 30, 31, 32, 33, 34, 35, 36, 37, 38, 39] (by decide +kernel) (by decide +kernel)
set_option maxRecDepth 20000 in
theorem gX8_isLoadAllowed_X8_isAwayToday : GoodIn wsX8_isLoadAllowed (wsV RX8 92 RX8 yX8_isAwayToday wsX8_isAwayToday) := goodIn_app (goodIn_of _ (by decide +kernel)) ggX8_isLoadAllowed_X8_isAwayToday
set_option maxRecDepth 20000 in
theorem ggX8_isLoadAllowed_X8_canWash : GoodIn wsX8_isLoadAllowed wsX8_canWash := goodIn_r _ [27] (by decide +kernel) (by decide +kernel)
set_option maxRecDepth 20000 in
theorem gX8_isLoadAllowed_X8_canWash : GoodIn wsX8_isLoadAllowed (va_wsS RX8 218 yX8_canWash wsX8_canWash) := goodIn_app (goodIn_of _ (by decide +kernel)) ggX8_isLoadAllowed_X8_canWash
theorem dX8_isLoadAllowed_0 : decode cX8_isLoadAllowed 0 = .ok (.iconst 0, 1) := by decide +kernel
theorem dX8_isLoadAllowed_1 : decode cX8_isLoadAllowed 1 = .ok (.istore_n 3, 1) := by decide +kernel
theorem dX8_isLoadAllowed_2 : decode cX8_isLoadAllowed 2 = .ok (.iconst 0, 1) := by decide +kernel
theorem dX8_isLoadAllowed_3 : decode cX8_isLoadAllowed 3 = .ok (.istore 4, 2) := by decide +kernel
theorem dX8_isLoadAllowed_5 : decode cX8_isLoadAllowed 5 = .ok (.iconst 1, 1) := by decide +kernel
theorem dX8_isLoadAllowed_6 : decode cX8_isLoadAllowed 6 = .ok (.istore 5, 2) := by decide +kernel
theorem dX8_isLoadAllowed_8 : decode cX8_isLoadAllowed 8 = .ok (.iconst 0, 1) := by decide +kernel
theorem dX8_isLoadAllowed_9 : decode cX8_isLoadAllowed 9 = .ok (.istore 6, 2) := by decide +kernel
theorem dX8_isLoadAllowed_11 : decode cX8_isLoadAllowed 11 = .ok (.iload 6, 2) := by decide +kernel
theorem dX8_isLoadAllowed_13 : decode cX8_isLoadAllowed 13 = .ok (.aload_n 0, 1) := by decide +kernel
theorem dX8_isLoadAllowed_14 : decode cX8_isLoadAllowed 14 = .ok (.getfield 7, 3) := by decide +kernel
theorem dX8_isLoadAllowed_17 : decode cX8_isLoadAllowed 17 = .ok (.iconst 0, 1) := by decide +kernel
theorem dX8_isLoadAllowed_18 : decode cX8_isLoadAllowed 18 = .ok (.iaload, 1) := by decide +kernel
theorem dX8_isLoadAllowed_19 : decode cX8_isLoadAllowed 19 = .ok (.if_icmp .ge 70, 3) := by decide +kernel
theorem dX8_isLoadAllowed_22 : decode cX8_isLoadAllowed 22 = .ok (.iload_n 2, 1) := by decide +kernel
theorem dX8_isLoadAllowed_23 : decode cX8_isLoadAllowed 23 = .ok (.iload 6, 2) := by decide +kernel
theorem dX8_isLoadAllowed_25 : decode cX8_isLoadAllowed 25 = .ok (.invokestatic 215, 3) := by decide +kernel
theorem dX8_isLoadAllowed_28 : decode cX8_isLoadAllowed 28 = .ok (.ifCond .eq 55, 3) := by decide +kernel
theorem dX8_isLoadAllowed_31 : decode cX8_isLoadAllowed 31 = .ok (.iinc 3 1, 3) := by decide +kernel
theorem dX8_isLoadAllowed_34 : decode cX8_isLoadAllowed 34 = .ok (.iload 4, 2) := by decide +kernel
theorem dX8_isLoadAllowed_36 : decode cX8_isLoadAllowed 36 = .ok (.iconst 1, 1) := by decide +kernel
theorem dX8_isLoadAllowed_37 : decode cX8_isLoadAllowed 37 = .ok (.aload_n 0, 1) := by decide +kernel
theorem dX8_isLoadAllowed_38 : decode cX8_isLoadAllowed 38 = .ok (.iload 6, 2) := by decide +kernel
theorem dX8_isLoadAllowed_40 : decode cX8_isLoadAllowed 40 = .ok (.iconst 5, 1) := by decide +kernel
theorem dX8_isLoadAllowed_41 : decode cX8_isLoadAllowed 41 = .ok (.invokevirtual 75, 3) := by decide +kernel
theorem dX8_isLoadAllowed_44 : decode cX8_isLoadAllowed 44 = .ok (.ishl, 1) := by decide +kernel
theorem dX8_isLoadAllowed_45 : decode cX8_isLoadAllowed 45 = .ok (.ior, 1) := by decide +kernel
theorem dX8_isLoadAllowed_46 : decode cX8_isLoadAllowed 46 = .ok (.istore 4, 2) := by decide +kernel
theorem dX8_isLoadAllowed_48 : decode cX8_isLoadAllowed 48 = .ok (.iload 5, 2) := by decide +kernel
theorem dX8_isLoadAllowed_50 : decode cX8_isLoadAllowed 50 = .ok (.ifCond .eq 30, 3) := by decide +kernel
theorem dX8_isLoadAllowed_53 : decode cX8_isLoadAllowed 53 = .ok (.aload_n 0, 1) := by decide +kernel
theorem dX8_isLoadAllowed_54 : decode cX8_isLoadAllowed 54 = .ok (.iload 6, 2) := by decide +kernel
theorem dX8_isLoadAllowed_56 : decode cX8_isLoadAllowed 56 = .ok (.invokevirtual 92, 3) := by decide +kernel
theorem dX8_isLoadAllowed_59 : decode cX8_isLoadAllowed 59 = .ok (.ifCond .ne 21, 3) := by decide +kernel
theorem dX8_isLoadAllowed_62 : decode cX8_isLoadAllowed 62 = .ok (.iload_n 1, 1) := by decide +kernel
theorem dX8_isLoadAllowed_63 : decode cX8_isLoadAllowed 63 = .ok (.aload_n 0, 1) := by decide +kernel
theorem dX8_isLoadAllowed_64 : decode cX8_isLoadAllowed 64 = .ok (.iload 6, 2) := by decide +kernel
theorem dX8_isLoadAllowed_66 : decode cX8_isLoadAllowed 66 = .ok (.iconst 4, 1) := by decide +kernel
theorem dX8_isLoadAllowed_67 : decode cX8_isLoadAllowed 67 = .ok (.invokevirtual 75, 3) := by decide +kernel
theorem dX8_isLoadAllowed_70 : decode cX8_isLoadAllowed 70 = .ok (.invokestatic 218, 3) := by decide +kernel
theorem dX8_isLoadAllowed_73 : decode cX8_isLoadAllowed 73 = .ok (.ifCond .eq 7, 3) := by decide +kernel
theorem dX8_isLoadAllowed_76 : decode cX8_isLoadAllowed 76 = .ok (.iconst 1, 1) := by decide +kernel
theorem dX8_isLoadAllowed_77 : decode cX8_isLoadAllowed 77 = .ok (.goto 4, 3) := by decide +kernel
theorem dX8_isLoadAllowed_80 : decode cX8_isLoadAllowed 80 = .ok (.iconst 0, 1) := by decide +kernel
theorem dX8_isLoadAllowed_81 : decode cX8_isLoadAllowed 81 = .ok (.istore 5, 2) := by decide +kernel
theorem dX8_isLoadAllowed_83 : decode cX8_isLoadAllowed 83 = .ok (.iinc 6 1, 3) := by decide +kernel
theorem dX8_isLoadAllowed_86 : decode cX8_isLoadAllowed 86 = .ok (.goto (-75), 3) := by decide +kernel
theorem dX8_isLoadAllowed_89 : decode cX8_isLoadAllowed 89 = .ok (.iload 5, 2) := by decide +kernel
theorem dX8_isLoadAllowed_91 : decode cX8_isLoadAllowed 91 = .ok (.ifCond .eq 23, 3) := by decide +kernel
theorem dX8_isLoadAllowed_94 : decode cX8_isLoadAllowed 94 = .ok (.iload_n 3, 1) := by decide +kernel
theorem dX8_isLoadAllowed_95 : decode cX8_isLoadAllowed 95 = .ok (.iconst 5, 1) := by decide +kernel
theorem dX8_isLoadAllowed_96 : decode cX8_isLoadAllowed 96 = .ok (.if_icmp .gt 18, 3) := by decide +kernel
theorem dX8_isLoadAllowed_99 : decode cX8_isLoadAllowed 99 = .ok (.iload_n 1, 1) := by decide +kernel
theorem dX8_isLoadAllowed_100 : decode cX8_isLoadAllowed 100 = .ok (.iconst 3, 1) := by decide +kernel
theorem dX8_isLoadAllowed_101 : decode cX8_isLoadAllowed 101 = .ok (.if_icmp .eq 9, 3) := by decide +kernel
theorem dX8_isLoadAllowed_104 : decode cX8_isLoadAllowed 104 = .ok (.iload 4, 2) := by decide +kernel
theorem dX8_isLoadAllowed_106 : decode cX8_isLoadAllowed 106 = .ok (.iconst 3, 1) := by decide +kernel
theorem dX8_isLoadAllowed_107 : decode cX8_isLoadAllowed 107 = .ok (.if_icmp .eq 7, 3) := by decide +kernel
theorem dX8_isLoadAllowed_110 : decode cX8_isLoadAllowed 110 = .ok (.iconst 1, 1) := by decide +kernel
theorem dX8_isLoadAllowed_111 : decode cX8_isLoadAllowed 111 = .ok (.goto 4, 3) := by decide +kernel
theorem dX8_isLoadAllowed_114 : decode cX8_isLoadAllowed 114 = .ok (.iconst 0, 1) := by decide +kernel
theorem dX8_isLoadAllowed_115 : decode cX8_isLoadAllowed 115 = .ok (.ireturn, 1) := by decide +kernel
theorem dX8_washesOut_0 : decode cX8_washesOut 0 = .ok (.iload_n 0, 1) := by decide +kernel
theorem dX8_washesOut_1 : decode cX8_washesOut 1 = .ok (.ifCond .ne 7, 3) := by decide +kernel
theorem dX8_washesOut_4 : decode cX8_washesOut 4 = .ok (.iconst 5, 1) := by decide +kernel
theorem dX8_washesOut_5 : decode cX8_washesOut 5 = .ok (.goto 22, 3) := by decide +kernel
theorem dX8_washesOut_8 : decode cX8_washesOut 8 = .ok (.iload_n 0, 1) := by decide +kernel
theorem dX8_washesOut_9 : decode cX8_washesOut 9 = .ok (.iconst 1, 1) := by decide +kernel
theorem dX8_washesOut_10 : decode cX8_washesOut 10 = .ok (.if_icmp .ne 7, 3) := by decide +kernel
theorem dX8_washesOut_13 : decode cX8_washesOut 13 = .ok (.iconst 3, 1) := by decide +kernel
theorem dX8_washesOut_14 : decode cX8_washesOut 14 = .ok (.goto 13, 3) := by decide +kernel
theorem dX8_washesOut_17 : decode cX8_washesOut 17 = .ok (.iload_n 0, 1) := by decide +kernel
theorem dX8_washesOut_18 : decode cX8_washesOut 18 = .ok (.iconst 2, 1) := by decide +kernel
theorem dX8_washesOut_19 : decode cX8_washesOut 19 = .ok (.if_icmp .ne 7, 3) := by decide +kernel
theorem dX8_washesOut_22 : decode cX8_washesOut 22 = .ok (.iconst 2, 1) := by decide +kernel
theorem dX8_washesOut_23 : decode cX8_washesOut 23 = .ok (.goto 4, 3) := by decide +kernel
theorem dX8_washesOut_26 : decode cX8_washesOut 26 = .ok (.iconst 4, 1) := by decide +kernel
theorem dX8_washesOut_27 : decode cX8_washesOut 27 = .ok (.ireturn, 1) := by decide +kernel
theorem dX8_costOf_0 : decode cX8_costOf 0 = .ok (.iload_n 0, 1) := by decide +kernel
theorem dX8_costOf_1 : decode cX8_costOf 1 = .ok (.ifCond .ne 8, 3) := by decide +kernel
theorem dX8_costOf_4 : decode cX8_costOf 4 = .ok (.bipush 8, 2) := by decide +kernel
theorem dX8_costOf_6 : decode cX8_costOf 6 = .ok (.goto 25, 3) := by decide +kernel
theorem dX8_costOf_9 : decode cX8_costOf 9 = .ok (.iload_n 0, 1) := by decide +kernel
theorem dX8_costOf_10 : decode cX8_costOf 10 = .ok (.iconst 1, 1) := by decide +kernel
theorem dX8_costOf_11 : decode cX8_costOf 11 = .ok (.if_icmp .ne 8, 3) := by decide +kernel
theorem dX8_costOf_14 : decode cX8_costOf 14 = .ok (.bipush 6, 2) := by decide +kernel
theorem dX8_costOf_16 : decode cX8_costOf 16 = .ok (.goto 15, 3) := by decide +kernel
theorem dX8_costOf_19 : decode cX8_costOf 19 = .ok (.iload_n 0, 1) := by decide +kernel
theorem dX8_costOf_20 : decode cX8_costOf 20 = .ok (.iconst 2, 1) := by decide +kernel
theorem dX8_costOf_21 : decode cX8_costOf 21 = .ok (.if_icmp .ne 8, 3) := by decide +kernel
theorem dX8_costOf_24 : decode cX8_costOf 24 = .ok (.bipush 10, 2) := by decide +kernel
theorem dX8_costOf_26 : decode cX8_costOf 26 = .ok (.goto 5, 3) := by decide +kernel
theorem dX8_costOf_29 : decode cX8_costOf 29 = .ok (.bipush 15, 2) := by decide +kernel
theorem dX8_costOf_31 : decode cX8_costOf 31 = .ok (.ireturn, 1) := by decide +kernel
set_option maxRecDepth 20000 in
theorem ggX8_wash_X8_in : GoodIn wsX8_wash wsX8_in := goodIn_r _ [7] (by decide +kernel) (by decide +kernel)
set_option maxRecDepth 20000 in
theorem gX8_wash_X8_in : GoodIn wsX8_wash (va_wsS RX8 32 yX8_in wsX8_in) := goodIn_app (goodIn_of _ (by decide +kernel)) ggX8_wash_X8_in
set_option maxRecDepth 20000 in
theorem ggX8_wash_X8_isLoadAllowed : GoodIn wsX8_wash wsX8_isLoadAllowed := goodIn_r _ [11, 3, 12, 13, 6, 14, 15, 16, 17, 18, 19, 20, 21, 22, 23, 24, 25, 26, 27, 28, 29, 30, 4, 5, 7, 31, 32, 33, 50, 51, 52, 53, 54, 55, 56, 57, 58, 59, 60, 61] (by decide +kernel) (by decide +kernel)
set_option maxRecDepth 20000 in
theorem gX8_wash_X8_isLoadAllowed : GoodIn wsX8_wash (wsV RX8 221 RX8 yX8_isLoadAllowed wsX8_isLoadAllowed) := goodIn_app (goodIn_of _ (by decide +kernel)) ggX8_wash_X8_isLoadAllowed
set_option maxRecDepth 20000 in
theorem ggX8_wash_X8_act : GoodIn wsX8_wash wsX8_act := goodIn_r _ [37, 38, 39, 3, 50, 51, 52, 53, 54, 55, 56, 57, 58, 59, 60, 61] (by decide +kernel) (by decide +kernel)
set_option maxRecDepth 20000 in
theorem gX8_wash_X8_act : GoodIn wsX8_wash (wsV RX8 29 RX8 yX8_act wsX8_act) := goodIn_app (goodIn_of _ (by decide +kernel)) ggX8_wash_X8_act
set_option maxRecDepth 20000 in
theorem ggX8_wash_X8_of : GoodIn wsX8_wash wsX8_of := goodIn_r _ [18, 3, 50, 51, 52, 53, 54, 55, 56, 57, 58, 59, 60, 61] (by decide +kernel) (by decide +kernel)
set_option maxRecDepth 20000 in
theorem gX8_wash_X8_of : GoodIn wsX8_wash (wsV RX8 75 RX8 yX8_of wsX8_of) := goodIn_app (goodIn_of _ (by decide +kernel)) ggX8_wash_X8_of
set_option maxRecDepth 20000 in
theorem ggX8_wash_X8_has : GoodIn wsX8_wash wsX8_has := goodIn_r _ [14] (by decide +kernel) (by decide +kernel)
set_option maxRecDepth 20000 in
theorem gX8_wash_X8_has : GoodIn wsX8_wash (va_wsS RX8 215 yX8_has wsX8_has) := goodIn_app (goodIn_of _ (by decide +kernel)) ggX8_wash_X8_has
set_option maxRecDepth 20000 in
theorem ggX8_wash_X8_washesOut : GoodIn wsX8_wash wsX8_washesOut := goodIn_r _ [42] (by decide +kernel) (by decide +kernel)
set_option maxRecDepth 20000 in
theorem gX8_wash_X8_washesOut : GoodIn wsX8_wash (va_wsS RX8 224 yX8_washesOut wsX8_washesOut) := goodIn_app (goodIn_of _ (by decide +kernel)) ggX8_wash_X8_washesOut
set_option maxRecDepth 20000 in
theorem ggX8_wash_X8_lay : GoodIn wsX8_wash wsX8_lay := goodIn_r _ [46, 3, 50, 51, 52, 53, 54, 55, 56, 57, 58, 59, 60, 61] (by decide +kernel) (by decide +kernel)
set_option maxRecDepth 20000 in
theorem gX8_wash_X8_lay : GoodIn wsX8_wash (wsV RX8 42 RX8 yX8_lay wsX8_lay) := goodIn_app (goodIn_of _ (by decide +kernel)) ggX8_wash_X8_lay
set_option maxRecDepth 20000 in
theorem ggX8_wash_X8_costOf : GoodIn wsX8_wash wsX8_costOf := goodIn_r _ [49] (by decide +kernel) (by decide +kernel)
set_option maxRecDepth 20000 in
theorem gX8_wash_X8_costOf : GoodIn wsX8_wash (va_wsS RX8 227 yX8_costOf wsX8_costOf) := goodIn_app (goodIn_of _ (by decide +kernel)) ggX8_wash_X8_costOf
theorem dX8_wash_0 : decode cX8_wash 0 = .ok (.aload_n 0, 1) := by decide +kernel
theorem dX8_wash_1 : decode cX8_wash 1 = .ok (.iconst 0, 1) := by decide +kernel
theorem dX8_wash_2 : decode cX8_wash 2 = .ok (.putfield 22, 3) := by decide +kernel
theorem dX8_wash_5 : decode cX8_wash 5 = .ok (.iload_n 1, 1) := by decide +kernel
theorem dX8_wash_6 : decode cX8_wash 6 = .ok (.i2l, 1) := by decide +kernel
theorem dX8_wash_7 : decode cX8_wash 7 = .ok (.lconst 0, 1) := by decide +kernel
theorem dX8_wash_8 : decode cX8_wash 8 = .ok (.ldc2_w 52, 3) := by decide +kernel
theorem dX8_wash_11 : decode cX8_wash 11 = .ok (.invokestatic 32, 3) := by decide +kernel
theorem dX8_wash_14 : decode cX8_wash 14 = .ok (.ifCond .eq 23, 3) := by decide +kernel
theorem dX8_wash_17 : decode cX8_wash 17 = .ok (.iload_n 2, 1) := by decide +kernel
theorem dX8_wash_18 : decode cX8_wash 18 = .ok (.i2l, 1) := by decide +kernel
theorem dX8_wash_19 : decode cX8_wash 19 = .ok (.lconst 1, 1) := by decide +kernel
theorem dX8_wash_20 : decode cX8_wash 20 = .ok (.iconst 1, 1) := by decide +kernel
theorem dX8_wash_21 : decode cX8_wash 21 = .ok (.aload_n 0, 1) := by decide +kernel
theorem dX8_wash_22 : decode cX8_wash 22 = .ok (.getfield 7, 3) := by decide +kernel
theorem dX8_wash_25 : decode cX8_wash 25 = .ok (.iconst 0, 1) := by decide +kernel
theorem dX8_wash_26 : decode cX8_wash 26 = .ok (.iaload, 1) := by decide +kernel
theorem dX8_wash_27 : decode cX8_wash 27 = .ok (.ishl, 1) := by decide +kernel
theorem dX8_wash_28 : decode cX8_wash 28 = .ok (.iconst 1, 1) := by decide +kernel
theorem dX8_wash_29 : decode cX8_wash 29 = .ok (.isub, 1) := by decide +kernel
theorem dX8_wash_30 : decode cX8_wash 30 = .ok (.i2l, 1) := by decide +kernel
theorem dX8_wash_31 : decode cX8_wash 31 = .ok (.invokestatic 32, 3) := by decide +kernel
theorem dX8_wash_34 : decode cX8_wash 34 = .ok (.ifCond .ne 7, 3) := by decide +kernel
theorem dX8_wash_37 : decode cX8_wash 37 = .ok (.sipush (-2001), 3) := by decide +kernel
theorem dX8_wash_40 : decode cX8_wash 40 = .ok (.ireturn, 1) := by decide +kernel
theorem dX8_wash_41 : decode cX8_wash 41 = .ok (.aload_n 0, 1) := by decide +kernel
theorem dX8_wash_42 : decode cX8_wash 42 = .ok (.iload_n 1, 1) := by decide +kernel
theorem dX8_wash_43 : decode cX8_wash 43 = .ok (.iload_n 2, 1) := by decide +kernel
theorem dX8_wash_44 : decode cX8_wash 44 = .ok (.invokevirtual 221, 3) := by decide +kernel
theorem dX8_wash_47 : decode cX8_wash 47 = .ok (.ifCond .ne 7, 3) := by decide +kernel
theorem dX8_wash_50 : decode cX8_wash 50 = .ok (.sipush (-2002), 3) := by decide +kernel
theorem dX8_wash_53 : decode cX8_wash 53 = .ok (.ireturn, 1) := by decide +kernel
theorem dX8_wash_54 : decode cX8_wash 54 = .ok (.aload_n 0, 1) := by decide +kernel
theorem dX8_wash_55 : decode cX8_wash 55 = .ok (.invokevirtual 29, 3) := by decide +kernel
theorem dX8_wash_58 : decode cX8_wash 58 = .ok (.iconst 0, 1) := by decide +kernel
theorem dX8_wash_59 : decode cX8_wash 59 = .ok (.istore_n 3, 1) := by decide +kernel
theorem dX8_wash_60 : decode cX8_wash 60 = .ok (.iconst 0, 1) := by decide +kernel
theorem dX8_wash_61 : decode cX8_wash 61 = .ok (.istore 4, 2) := by decide +kernel
theorem dX8_wash_63 : decode cX8_wash 63 = .ok (.iload 4, 2) := by decide +kernel
theorem dX8_wash_65 : decode cX8_wash 65 = .ok (.aload_n 0, 1) := by decide +kernel
theorem dX8_wash_66 : decode cX8_wash 66 = .ok (.getfield 7, 3) := by decide +kernel
theorem dX8_wash_69 : decode cX8_wash 69 = .ok (.iconst 0, 1) := by decide +kernel
theorem dX8_wash_70 : decode cX8_wash 70 = .ok (.iaload, 1) := by decide +kernel
theorem dX8_wash_71 : decode cX8_wash 71 = .ok (.if_icmp .ge 70, 3) := by decide +kernel
theorem dX8_wash_74 : decode cX8_wash 74 = .ok (.aload_n 0, 1) := by decide +kernel
theorem dX8_wash_75 : decode cX8_wash 75 = .ok (.iload 4, 2) := by decide +kernel
theorem dX8_wash_77 : decode cX8_wash 77 = .ok (.bipush 6, 2) := by decide +kernel
theorem dX8_wash_79 : decode cX8_wash 79 = .ok (.invokevirtual 75, 3) := by decide +kernel
theorem dX8_wash_82 : decode cX8_wash 82 = .ok (.istore 5, 2) := by decide +kernel
theorem dX8_wash_84 : decode cX8_wash 84 = .ok (.iload_n 2, 1) := by decide +kernel
theorem dX8_wash_85 : decode cX8_wash 85 = .ok (.iload 4, 2) := by decide +kernel
theorem dX8_wash_87 : decode cX8_wash 87 = .ok (.invokestatic 215, 3) := by decide +kernel
theorem dX8_wash_90 : decode cX8_wash 90 = .ok (.ifCond .ne 7, 3) := by decide +kernel
theorem dX8_wash_93 : decode cX8_wash 93 = .ok (.iconst 0, 1) := by decide +kernel
theorem dX8_wash_94 : decode cX8_wash 94 = .ok (.goto 21, 3) := by decide +kernel
theorem dX8_wash_97 : decode cX8_wash 97 = .ok (.iload 5, 2) := by decide +kernel
theorem dX8_wash_99 : decode cX8_wash 99 = .ok (.iload_n 1, 1) := by decide +kernel
theorem dX8_wash_100 : decode cX8_wash 100 = .ok (.invokestatic 224, 3) := by decide +kernel
theorem dX8_wash_103 : decode cX8_wash 103 = .ok (.if_icmp .ge 8, 3) := by decide +kernel
theorem dX8_wash_106 : decode cX8_wash 106 = .ok (.iload 5, 2) := by decide +kernel
theorem dX8_wash_108 : decode cX8_wash 108 = .ok (.goto 7, 3) := by decide +kernel
theorem dX8_wash_111 : decode cX8_wash 111 = .ok (.iload_n 1, 1) := by decide +kernel
theorem dX8_wash_112 : decode cX8_wash 112 = .ok (.invokestatic 224, 3) := by decide +kernel
theorem dX8_wash_115 : decode cX8_wash 115 = .ok (.istore 6, 2) := by decide +kernel
theorem dX8_wash_117 : decode cX8_wash 117 = .ok (.aload_n 0, 1) := by decide +kernel
theorem dX8_wash_118 : decode cX8_wash 118 = .ok (.iload 4, 2) := by decide +kernel
theorem dX8_wash_120 : decode cX8_wash 120 = .ok (.bipush 6, 2) := by decide +kernel
theorem dX8_wash_122 : decode cX8_wash 122 = .ok (.iload 5, 2) := by decide +kernel
theorem dX8_wash_124 : decode cX8_wash 124 = .ok (.iload 6, 2) := by decide +kernel
theorem dX8_wash_126 : decode cX8_wash 126 = .ok (.isub, 1) := by decide +kernel
theorem dX8_wash_127 : decode cX8_wash 127 = .ok (.invokevirtual 42, 3) := by decide +kernel
theorem dX8_wash_130 : decode cX8_wash 130 = .ok (.iload_n 3, 1) := by decide +kernel
theorem dX8_wash_131 : decode cX8_wash 131 = .ok (.iload 6, 2) := by decide +kernel
theorem dX8_wash_133 : decode cX8_wash 133 = .ok (.iadd, 1) := by decide +kernel
theorem dX8_wash_134 : decode cX8_wash 134 = .ok (.istore_n 3, 1) := by decide +kernel
theorem dX8_wash_135 : decode cX8_wash 135 = .ok (.iinc 4 1, 3) := by decide +kernel
theorem dX8_wash_138 : decode cX8_wash 138 = .ok (.goto (-75), 3) := by decide +kernel
theorem dX8_wash_141 : decode cX8_wash 141 = .ok (.aload_n 0, 1) := by decide +kernel
theorem dX8_wash_142 : decode cX8_wash 142 = .ok (.getfield 7, 3) := by decide +kernel
theorem dX8_wash_145 : decode cX8_wash 145 = .ok (.bipush 6, 2) := by decide +kernel
theorem dX8_wash_147 : decode cX8_wash 147 = .ok (.dup2, 1) := by decide +kernel
theorem dX8_wash_148 : decode cX8_wash 148 = .ok (.iaload, 1) := by decide +kernel
theorem dX8_wash_149 : decode cX8_wash 149 = .ok (.iload_n 1, 1) := by decide +kernel
theorem dX8_wash_150 : decode cX8_wash 150 = .ok (.invokestatic 227, 3) := by decide +kernel
theorem dX8_wash_153 : decode cX8_wash 153 = .ok (.iadd, 1) := by decide +kernel
theorem dX8_wash_154 : decode cX8_wash 154 = .ok (.iastore, 1) := by decide +kernel
theorem dX8_wash_155 : decode cX8_wash 155 = .ok (.iload_n 3, 1) := by decide +kernel
theorem dX8_wash_156 : decode cX8_wash 156 = .ok (.ireturn, 1) := by decide +kernel
theorem dX8_undo_0 : decode cX8_undo 0 = .ok (.aload_n 0, 1) := by decide +kernel
theorem dX8_undo_1 : decode cX8_undo 1 = .ok (.iconst 0, 1) := by decide +kernel
theorem dX8_undo_2 : decode cX8_undo 2 = .ok (.putfield 22, 3) := by decide +kernel
theorem dX8_undo_5 : decode cX8_undo 5 = .ok (.aload_n 0, 1) := by decide +kernel
theorem dX8_undo_6 : decode cX8_undo 6 = .ok (.getfield 26, 3) := by decide +kernel
theorem dX8_undo_9 : decode cX8_undo 9 = .ok (.ifCond .ne 7, 3) := by decide +kernel
theorem dX8_undo_12 : decode cX8_undo 12 = .ok (.sipush (-2002), 3) := by decide +kernel
theorem dX8_undo_15 : decode cX8_undo 15 = .ok (.ireturn, 1) := by decide +kernel
theorem dX8_undo_16 : decode cX8_undo 16 = .ok (.aload_n 0, 1) := by decide +kernel
theorem dX8_undo_17 : decode cX8_undo 17 = .ok (.dup, 1) := by decide +kernel
theorem dX8_undo_18 : decode cX8_undo 18 = .ok (.getfield 26, 3) := by decide +kernel
theorem dX8_undo_21 : decode cX8_undo 21 = .ok (.iconst 1, 1) := by decide +kernel
theorem dX8_undo_22 : decode cX8_undo 22 = .ok (.isub, 1) := by decide +kernel
theorem dX8_undo_23 : decode cX8_undo 23 = .ok (.putfield 26, 3) := by decide +kernel
theorem dX8_undo_26 : decode cX8_undo 26 = .ok (.iconst 0, 1) := by decide +kernel
theorem dX8_undo_27 : decode cX8_undo 27 = .ok (.istore_n 1, 1) := by decide +kernel
theorem dX8_undo_28 : decode cX8_undo 28 = .ok (.iload_n 1, 1) := by decide +kernel
theorem dX8_undo_29 : decode cX8_undo 29 = .ok (.sipush 572, 3) := by decide +kernel
theorem dX8_undo_32 : decode cX8_undo 32 = .ok (.if_icmp .ge 30, 3) := by decide +kernel
theorem dX8_undo_35 : decode cX8_undo 35 = .ok (.aload_n 0, 1) := by decide +kernel
theorem dX8_undo_36 : decode cX8_undo 36 = .ok (.getfield 7, 3) := by decide +kernel
theorem dX8_undo_39 : decode cX8_undo 39 = .ok (.iload_n 1, 1) := by decide +kernel
theorem dX8_undo_40 : decode cX8_undo 40 = .ok (.aload_n 0, 1) := by decide +kernel
theorem dX8_undo_41 : decode cX8_undo 41 = .ok (.getfield 16, 3) := by decide +kernel
theorem dX8_undo_44 : decode cX8_undo 44 = .ok (.sipush 572, 3) := by decide +kernel
theorem dX8_undo_47 : decode cX8_undo 47 = .ok (.aload_n 0, 1) := by decide +kernel
theorem dX8_undo_48 : decode cX8_undo 48 = .ok (.getfield 26, 3) := by decide +kernel
theorem dX8_undo_51 : decode cX8_undo 51 = .ok (.imul, 1) := by decide +kernel
theorem dX8_undo_52 : decode cX8_undo 52 = .ok (.iload_n 1, 1) := by decide +kernel
theorem dX8_undo_53 : decode cX8_undo 53 = .ok (.iadd, 1) := by decide +kernel
theorem dX8_undo_54 : decode cX8_undo 54 = .ok (.iaload, 1) := by decide +kernel
theorem dX8_undo_55 : decode cX8_undo 55 = .ok (.iastore, 1) := by decide +kernel
theorem dX8_undo_56 : decode cX8_undo 56 = .ok (.iinc 1 1, 3) := by decide +kernel
theorem dX8_undo_59 : decode cX8_undo 59 = .ok (.goto (-31), 3) := by decide +kernel
theorem dX8_undo_62 : decode cX8_undo 62 = .ok (.aload_n 0, 1) := by decide +kernel
theorem dX8_undo_63 : decode cX8_undo 63 = .ok (.getfield 26, 3) := by decide +kernel
theorem dX8_undo_66 : decode cX8_undo 66 = .ok (.ireturn, 1) := by decide +kernel
set_option maxRecDepth 20000 in
theorem ggX8_quickChanges_X8_worn : GoodIn wsX8_quickChanges wsX8_worn := goodIn_r _ [6, 1, 7, 8, 9, 10, 11, 12, 13, 14, 15, 16, 17, 18] (by decide +kernel) (by decide +kernel)
set_option maxRecDepth 20000 in
theorem gX8_quickChanges_X8_worn : GoodIn wsX8_quickChanges (wsV RX8 172 RX8 yX8_worn wsX8_worn) := goodIn_app (goodIn_of _ (by decide +kernel)) ggX8_quickChanges_X8_worn
theorem dX8_quickChanges_0 : decode cX8_quickChanges 0 = .ok (.iconst 0, 1) := by decide +kernel
theorem dX8_quickChanges_1 : decode cX8_quickChanges 1 = .ok (.istore_n 1, 1) := by decide +kernel
theorem dX8_quickChanges_2 : decode cX8_quickChanges 2 = .ok (.iconst 0, 1) := by decide +kernel
theorem dX8_quickChanges_3 : decode cX8_quickChanges 3 = .ok (.istore_n 2, 1) := by decide +kernel
theorem dX8_quickChanges_4 : decode cX8_quickChanges 4 = .ok (.iload_n 2, 1) := by decide +kernel
theorem dX8_quickChanges_5 : decode cX8_quickChanges 5 = .ok (.iconst 1, 1) := by decide +kernel
theorem dX8_quickChanges_6 : decode cX8_quickChanges 6 = .ok (.iadd, 1) := by decide +kernel
theorem dX8_quickChanges_7 : decode cX8_quickChanges 7 = .ok (.bipush 12, 2) := by decide +kernel
theorem dX8_quickChanges_9 : decode cX8_quickChanges 9 = .ok (.if_icmp .ge 72, 3) := by decide +kernel
theorem dX8_quickChanges_12 : decode cX8_quickChanges 12 = .ok (.iconst 0, 1) := by decide +kernel
theorem dX8_quickChanges_13 : decode cX8_quickChanges 13 = .ok (.istore_n 3, 1) := by decide +kernel
theorem dX8_quickChanges_14 : decode cX8_quickChanges 14 = .ok (.iload_n 3, 1) := by decide +kernel
theorem dX8_quickChanges_15 : decode cX8_quickChanges 15 = .ok (.aload_n 0, 1) := by decide +kernel
theorem dX8_quickChanges_16 : decode cX8_quickChanges 16 = .ok (.getfield 7, 3) := by decide +kernel
theorem dX8_quickChanges_19 : decode cX8_quickChanges 19 = .ok (.iconst 1, 1) := by decide +kernel
theorem dX8_quickChanges_20 : decode cX8_quickChanges 20 = .ok (.iaload, 1) := by decide +kernel
theorem dX8_quickChanges_21 : decode cX8_quickChanges 21 = .ok (.if_icmp .ge 54, 3) := by decide +kernel
theorem dX8_quickChanges_24 : decode cX8_quickChanges 24 = .ok (.aload_n 0, 1) := by decide +kernel
theorem dX8_quickChanges_25 : decode cX8_quickChanges 25 = .ok (.iload_n 2, 1) := by decide +kernel
theorem dX8_quickChanges_26 : decode cX8_quickChanges 26 = .ok (.iload_n 3, 1) := by decide +kernel
theorem dX8_quickChanges_27 : decode cX8_quickChanges 27 = .ok (.invokevirtual 172, 3) := by decide +kernel
theorem dX8_quickChanges_30 : decode cX8_quickChanges 30 = .ok (.istore 4, 2) := by decide +kernel
theorem dX8_quickChanges_32 : decode cX8_quickChanges 32 = .ok (.aload_n 0, 1) := by decide +kernel
theorem dX8_quickChanges_33 : decode cX8_quickChanges 33 = .ok (.iload_n 2, 1) := by decide +kernel
theorem dX8_quickChanges_34 : decode cX8_quickChanges 34 = .ok (.iconst 1, 1) := by decide +kernel
theorem dX8_quickChanges_35 : decode cX8_quickChanges 35 = .ok (.iadd, 1) := by decide +kernel
theorem dX8_quickChanges_36 : decode cX8_quickChanges 36 = .ok (.iload_n 3, 1) := by decide +kernel
theorem dX8_quickChanges_37 : decode cX8_quickChanges 37 = .ok (.invokevirtual 172, 3) := by decide +kernel
theorem dX8_quickChanges_40 : decode cX8_quickChanges 40 = .ok (.istore 5, 2) := by decide +kernel
theorem dX8_quickChanges_42 : decode cX8_quickChanges 42 = .ok (.iload_n 1, 1) := by decide +kernel
theorem dX8_quickChanges_43 : decode cX8_quickChanges 43 = .ok (.iload 4, 2) := by decide +kernel
theorem dX8_quickChanges_45 : decode cX8_quickChanges 45 = .ok (.iconst (-1), 1) := by decide +kernel
theorem dX8_quickChanges_46 : decode cX8_quickChanges 46 = .ok (.if_icmp .eq 20, 3) := by decide +kernel
theorem dX8_quickChanges_49 : decode cX8_quickChanges 49 = .ok (.iload 5, 2) := by decide +kernel
theorem dX8_quickChanges_51 : decode cX8_quickChanges 51 = .ok (.iconst (-1), 1) := by decide +kernel
theorem dX8_quickChanges_52 : decode cX8_quickChanges 52 = .ok (.if_icmp .eq 14, 3) := by decide +kernel
theorem dX8_quickChanges_55 : decode cX8_quickChanges 55 = .ok (.iload 4, 2) := by decide +kernel
theorem dX8_quickChanges_57 : decode cX8_quickChanges 57 = .ok (.iload 5, 2) := by decide +kernel
theorem dX8_quickChanges_59 : decode cX8_quickChanges 59 = .ok (.if_icmp .eq 7, 3) := by decide +kernel
theorem dX8_quickChanges_62 : decode cX8_quickChanges 62 = .ok (.iconst 1, 1) := by decide +kernel
theorem dX8_quickChanges_63 : decode cX8_quickChanges 63 = .ok (.goto 4, 3) := by decide +kernel
theorem dX8_quickChanges_66 : decode cX8_quickChanges 66 = .ok (.iconst 0, 1) := by decide +kernel
theorem dX8_quickChanges_67 : decode cX8_quickChanges 67 = .ok (.iadd, 1) := by decide +kernel
theorem dX8_quickChanges_68 : decode cX8_quickChanges 68 = .ok (.istore_n 1, 1) := by decide +kernel
theorem dX8_quickChanges_69 : decode cX8_quickChanges 69 = .ok (.iinc 3 1, 3) := by decide +kernel
theorem dX8_quickChanges_72 : decode cX8_quickChanges 72 = .ok (.goto (-58), 3) := by decide +kernel
theorem dX8_quickChanges_75 : decode cX8_quickChanges 75 = .ok (.iinc 2 1, 3) := by decide +kernel
theorem dX8_quickChanges_78 : decode cX8_quickChanges 78 = .ok (.goto (-74), 3) := by decide +kernel
theorem dX8_quickChanges_81 : decode cX8_quickChanges 81 = .ok (.iload_n 1, 1) := by decide +kernel
theorem dX8_quickChanges_82 : decode cX8_quickChanges 82 = .ok (.ireturn, 1) := by decide +kernel
set_option maxRecDepth 20000 in
theorem ggX8_awayToday_X8_isAwayToday : GoodIn wsX8_awayToday wsX8_isAwayToday := goodIn_r _ [6, 1, 7, 8, 9, 5, 10, 11, 12, 13, 14, 15, 16, 17, 18, 19, 20, 21, 22, 23, 24, 25, 26, 27, 28, 29] (by decide +kernel) (by decide +kernel)
set_option maxRecDepth 20000 in
theorem gX8_awayToday_X8_isAwayToday : GoodIn wsX8_awayToday (wsV RX8 92 RX8 yX8_isAwayToday wsX8_isAwayToday) := goodIn_app (goodIn_of _ (by decide +kernel)) ggX8_awayToday_X8_isAwayToday
theorem dX8_awayToday_0 : decode cX8_awayToday 0 = .ok (.iconst 0, 1) := by decide +kernel
theorem dX8_awayToday_1 : decode cX8_awayToday 1 = .ok (.istore_n 1, 1) := by decide +kernel
theorem dX8_awayToday_2 : decode cX8_awayToday 2 = .ok (.iconst 0, 1) := by decide +kernel
theorem dX8_awayToday_3 : decode cX8_awayToday 3 = .ok (.istore_n 2, 1) := by decide +kernel
theorem dX8_awayToday_4 : decode cX8_awayToday 4 = .ok (.iload_n 2, 1) := by decide +kernel
theorem dX8_awayToday_5 : decode cX8_awayToday 5 = .ok (.aload_n 0, 1) := by decide +kernel
theorem dX8_awayToday_6 : decode cX8_awayToday 6 = .ok (.getfield 7, 3) := by decide +kernel
theorem dX8_awayToday_9 : decode cX8_awayToday 9 = .ok (.iconst 0, 1) := by decide +kernel
theorem dX8_awayToday_10 : decode cX8_awayToday 10 = .ok (.iaload, 1) := by decide +kernel
theorem dX8_awayToday_11 : decode cX8_awayToday 11 = .ok (.if_icmp .ge 27, 3) := by decide +kernel
theorem dX8_awayToday_14 : decode cX8_awayToday 14 = .ok (.iload_n 1, 1) := by decide +kernel
theorem dX8_awayToday_15 : decode cX8_awayToday 15 = .ok (.aload_n 0, 1) := by decide +kernel
theorem dX8_awayToday_16 : decode cX8_awayToday 16 = .ok (.iload_n 2, 1) := by decide +kernel
theorem dX8_awayToday_17 : decode cX8_awayToday 17 = .ok (.invokevirtual 92, 3) := by decide +kernel
theorem dX8_awayToday_20 : decode cX8_awayToday 20 = .ok (.ifCond .eq 9, 3) := by decide +kernel
theorem dX8_awayToday_23 : decode cX8_awayToday 23 = .ok (.iconst 1, 1) := by decide +kernel
theorem dX8_awayToday_24 : decode cX8_awayToday 24 = .ok (.iload_n 2, 1) := by decide +kernel
theorem dX8_awayToday_25 : decode cX8_awayToday 25 = .ok (.ishl, 1) := by decide +kernel
theorem dX8_awayToday_26 : decode cX8_awayToday 26 = .ok (.goto 4, 3) := by decide +kernel
theorem dX8_awayToday_29 : decode cX8_awayToday 29 = .ok (.iconst 0, 1) := by decide +kernel
theorem dX8_awayToday_30 : decode cX8_awayToday 30 = .ok (.ior, 1) := by decide +kernel
theorem dX8_awayToday_31 : decode cX8_awayToday 31 = .ok (.istore_n 1, 1) := by decide +kernel
theorem dX8_awayToday_32 : decode cX8_awayToday 32 = .ok (.iinc 2 1, 3) := by decide +kernel
theorem dX8_awayToday_35 : decode cX8_awayToday 35 = .ok (.goto (-31), 3) := by decide +kernel
theorem dX8_awayToday_38 : decode cX8_awayToday 38 = .ok (.iload_n 1, 1) := by decide +kernel
theorem dX8_awayToday_39 : decode cX8_awayToday 39 = .ok (.ireturn, 1) := by decide +kernel
set_option maxRecDepth 20000 in
theorem ggX8_count_X8_quickChanges : GoodIn wsX8_count wsX8_quickChanges := goodIn_r _ [11, 2, 12, 13, 14, 10, 15, 35, 36, 37, 38, 39, 40, 41, 42, 43, 44, 45, 46] (by decide +kernel) (by decide +kernel)
set_option maxRecDepth 20000 in
theorem gX8_count_X8_quickChanges : GoodIn wsX8_count (wsV RX8 230 RX8 yX8_quickChanges wsX8_quickChanges) := goodIn_app (goodIn_of _ (by decide +kernel)) ggX8_count_X8_quickChanges
set_option maxRecDepth 20000 in
theorem ggX8_count_X8_awayToday : GoodIn wsX8_count wsX8_awayToday := goodIn_r _ [19, 2, 20, 21, 22, 10, 23, 24, 25, 26, 27, 28, 29, 30, 31, 32, 33, 34, 35, 36, 37, 38, 39, 40, 41, 42, 43, 44, 45, 46] (by decide +kernel) (by decide +kernel)
set_option maxRecDepth 20000 in
theorem gX8_count_X8_awayToday : GoodIn wsX8_count (wsV RX8 233 RX8 yX8_awayToday wsX8_awayToday) := goodIn_app (goodIn_of _ (by decide +kernel)) ggX8_count_X8_awayToday
set_option maxRecDepth 20000 in
theorem ggX8_count_X8_in : GoodIn wsX8_count wsX8_in := goodIn_r _ [34] (by decide +kernel) (by decide +kernel)
set_option maxRecDepth 20000 in
theorem gX8_count_X8_in : GoodIn wsX8_count (va_wsS RX8 32 yX8_in wsX8_in) := goodIn_app (goodIn_of _ (by decide +kernel)) ggX8_count_X8_in
theorem dX8_count_0 : decode cX8_count 0 = .ok (.aload_n 0, 1) := by decide +kernel
theorem dX8_count_1 : decode cX8_count 1 = .ok (.iconst 0, 1) := by decide +kernel
theorem dX8_count_2 : decode cX8_count 2 = .ok (.putfield 22, 3) := by decide +kernel
theorem dX8_count_5 : decode cX8_count 5 = .ok (.iload_n 1, 1) := by decide +kernel
theorem dX8_count_6 : decode cX8_count 6 = .ok (.tableswitch 119 0 11 #[62, 62, 62, 62, 69, 74, 81, 88, 96, 101, 109, 114], 62) := by decide +kernel
theorem dX8_count_68 : decode cX8_count 68 = .ok (.aload_n 0, 1) := by decide +kernel
theorem dX8_count_69 : decode cX8_count 69 = .ok (.getfield 7, 3) := by decide +kernel
theorem dX8_count_72 : decode cX8_count 72 = .ok (.iload_n 1, 1) := by decide +kernel
theorem dX8_count_73 : decode cX8_count 73 = .ok (.iaload, 1) := by decide +kernel
theorem dX8_count_74 : decode cX8_count 74 = .ok (.ireturn, 1) := by decide +kernel
theorem dX8_count_75 : decode cX8_count 75 = .ok (.aload_n 0, 1) := by decide +kernel
theorem dX8_count_76 : decode cX8_count 76 = .ok (.invokevirtual 230, 3) := by decide +kernel
theorem dX8_count_79 : decode cX8_count 79 = .ok (.ireturn, 1) := by decide +kernel
theorem dX8_count_80 : decode cX8_count 80 = .ok (.aload_n 0, 1) := by decide +kernel
theorem dX8_count_81 : decode cX8_count 81 = .ok (.getfield 7, 3) := by decide +kernel
theorem dX8_count_84 : decode cX8_count 84 = .ok (.iconst 4, 1) := by decide +kernel
theorem dX8_count_85 : decode cX8_count 85 = .ok (.iaload, 1) := by decide +kernel
theorem dX8_count_86 : decode cX8_count 86 = .ok (.ireturn, 1) := by decide +kernel
theorem dX8_count_87 : decode cX8_count 87 = .ok (.aload_n 0, 1) := by decide +kernel
theorem dX8_count_88 : decode cX8_count 88 = .ok (.getfield 7, 3) := by decide +kernel
theorem dX8_count_91 : decode cX8_count 91 = .ok (.iconst 5, 1) := by decide +kernel
theorem dX8_count_92 : decode cX8_count 92 = .ok (.iaload, 1) := by decide +kernel
theorem dX8_count_93 : decode cX8_count 93 = .ok (.ireturn, 1) := by decide +kernel
theorem dX8_count_94 : decode cX8_count 94 = .ok (.aload_n 0, 1) := by decide +kernel
theorem dX8_count_95 : decode cX8_count 95 = .ok (.getfield 7, 3) := by decide +kernel
theorem dX8_count_98 : decode cX8_count 98 = .ok (.bipush 6, 2) := by decide +kernel
theorem dX8_count_100 : decode cX8_count 100 = .ok (.iaload, 1) := by decide +kernel
theorem dX8_count_101 : decode cX8_count 101 = .ok (.ireturn, 1) := by decide +kernel
theorem dX8_count_102 : decode cX8_count 102 = .ok (.aload_n 0, 1) := by decide +kernel
theorem dX8_count_103 : decode cX8_count 103 = .ok (.invokevirtual 233, 3) := by decide +kernel
theorem dX8_count_106 : decode cX8_count 106 = .ok (.ireturn, 1) := by decide +kernel
theorem dX8_count_107 : decode cX8_count 107 = .ok (.aload_n 0, 1) := by decide +kernel
theorem dX8_count_108 : decode cX8_count 108 = .ok (.getfield 7, 3) := by decide +kernel
theorem dX8_count_111 : decode cX8_count 111 = .ok (.bipush 7, 2) := by decide +kernel
theorem dX8_count_113 : decode cX8_count 113 = .ok (.iaload, 1) := by decide +kernel
theorem dX8_count_114 : decode cX8_count 114 = .ok (.ireturn, 1) := by decide +kernel
theorem dX8_count_115 : decode cX8_count 115 = .ok (.aload_n 0, 1) := by decide +kernel
theorem dX8_count_116 : decode cX8_count 116 = .ok (.getfield 26, 3) := by decide +kernel
theorem dX8_count_119 : decode cX8_count 119 = .ok (.ireturn, 1) := by decide +kernel
theorem dX8_count_120 : decode cX8_count 120 = .ok (.aload_n 0, 1) := by decide +kernel
theorem dX8_count_121 : decode cX8_count 121 = .ok (.getfield 104, 3) := by decide +kernel
theorem dX8_count_124 : decode cX8_count 124 = .ok (.ireturn, 1) := by decide +kernel
theorem dX8_count_125 : decode cX8_count 125 = .ok (.iload_n 1, 1) := by decide +kernel
theorem dX8_count_126 : decode cX8_count 126 = .ok (.i2l, 1) := by decide +kernel
theorem dX8_count_127 : decode cX8_count 127 = .ok (.ldc2_w 236, 3) := by decide +kernel
theorem dX8_count_130 : decode cX8_count 130 = .ok (.ldc2_w 238, 3) := by decide +kernel
theorem dX8_count_133 : decode cX8_count 133 = .ok (.invokestatic 32, 3) := by decide +kernel
theorem dX8_count_136 : decode cX8_count 136 = .ok (.ifCond .eq 18, 3) := by decide +kernel
theorem dX8_count_139 : decode cX8_count 139 = .ok (.aload_n 0, 1) := by decide +kernel
theorem dX8_count_140 : decode cX8_count 140 = .ok (.getfield 7, 3) := by decide +kernel
theorem dX8_count_143 : decode cX8_count 143 = .ok (.bipush 8, 2) := by decide +kernel
theorem dX8_count_145 : decode cX8_count 145 = .ok (.iload_n 1, 1) := by decide +kernel
theorem dX8_count_146 : decode cX8_count 146 = .ok (.iadd, 1) := by decide +kernel
theorem dX8_count_147 : decode cX8_count 147 = .ok (.bipush 12, 2) := by decide +kernel
theorem dX8_count_149 : decode cX8_count 149 = .ok (.isub, 1) := by decide +kernel
theorem dX8_count_150 : decode cX8_count 150 = .ok (.iaload, 1) := by decide +kernel
theorem dX8_count_151 : decode cX8_count 151 = .ok (.goto 6, 3) := by decide +kernel
theorem dX8_count_154 : decode cX8_count 154 = .ok (.sipush (-2001), 3) := by decide +kernel
theorem dX8_count_157 : decode cX8_count 157 = .ok (.ireturn, 1) := by decide +kernel
set_option maxRecDepth 20000 in
theorem ggX8_hiresOf_X8_ofHire : GoodIn wsX8_hiresOf wsX8_ofHire := goodIn_r _ [6, 1, 7, 8, 9, 10, 11, 12, 13, 14, 15, 16, 17, 18] (by decide +kernel) (by decide +kernel)
set_option maxRecDepth 20000 in
theorem gX8_hiresOf_X8_ofHire : GoodIn wsX8_hiresOf (wsV RX8 81 RX8 yX8_ofHire wsX8_ofHire) := goodIn_app (goodIn_of _ (by decide +kernel)) ggX8_hiresOf_X8_ofHire
theorem dX8_hiresOf_0 : decode cX8_hiresOf 0 = .ok (.iconst 0, 1) := by decide +kernel
theorem dX8_hiresOf_1 : decode cX8_hiresOf 1 = .ok (.istore_n 2, 1) := by decide +kernel
theorem dX8_hiresOf_2 : decode cX8_hiresOf 2 = .ok (.iconst 0, 1) := by decide +kernel
theorem dX8_hiresOf_3 : decode cX8_hiresOf 3 = .ok (.istore_n 3, 1) := by decide +kernel
theorem dX8_hiresOf_4 : decode cX8_hiresOf 4 = .ok (.iload_n 3, 1) := by decide +kernel
theorem dX8_hiresOf_5 : decode cX8_hiresOf 5 = .ok (.aload_n 0, 1) := by decide +kernel
theorem dX8_hiresOf_6 : decode cX8_hiresOf 6 = .ok (.getfield 7, 3) := by decide +kernel
theorem dX8_hiresOf_9 : decode cX8_hiresOf 9 = .ok (.iconst 2, 1) := by decide +kernel
theorem dX8_hiresOf_10 : decode cX8_hiresOf 10 = .ok (.iaload, 1) := by decide +kernel
theorem dX8_hiresOf_11 : decode cX8_hiresOf 11 = .ok (.if_icmp .ge 27, 3) := by decide +kernel
theorem dX8_hiresOf_14 : decode cX8_hiresOf 14 = .ok (.iload_n 2, 1) := by decide +kernel
theorem dX8_hiresOf_15 : decode cX8_hiresOf 15 = .ok (.aload_n 0, 1) := by decide +kernel
theorem dX8_hiresOf_16 : decode cX8_hiresOf 16 = .ok (.iload_n 3, 1) := by decide +kernel
theorem dX8_hiresOf_17 : decode cX8_hiresOf 17 = .ok (.iconst 0, 1) := by decide +kernel
theorem dX8_hiresOf_18 : decode cX8_hiresOf 18 = .ok (.invokevirtual 81, 3) := by decide +kernel
theorem dX8_hiresOf_21 : decode cX8_hiresOf 21 = .ok (.iload_n 1, 1) := by decide +kernel
theorem dX8_hiresOf_22 : decode cX8_hiresOf 22 = .ok (.if_icmp .ne 7, 3) := by decide +kernel
theorem dX8_hiresOf_25 : decode cX8_hiresOf 25 = .ok (.iconst 1, 1) := by decide +kernel
theorem dX8_hiresOf_26 : decode cX8_hiresOf 26 = .ok (.goto 4, 3) := by decide +kernel
theorem dX8_hiresOf_29 : decode cX8_hiresOf 29 = .ok (.iconst 0, 1) := by decide +kernel
theorem dX8_hiresOf_30 : decode cX8_hiresOf 30 = .ok (.iadd, 1) := by decide +kernel
theorem dX8_hiresOf_31 : decode cX8_hiresOf 31 = .ok (.istore_n 2, 1) := by decide +kernel
theorem dX8_hiresOf_32 : decode cX8_hiresOf 32 = .ok (.iinc 3 1, 3) := by decide +kernel
theorem dX8_hiresOf_35 : decode cX8_hiresOf 35 = .ok (.goto (-31), 3) := by decide +kernel
theorem dX8_hiresOf_38 : decode cX8_hiresOf 38 = .ok (.iload_n 2, 1) := by decide +kernel
theorem dX8_hiresOf_39 : decode cX8_hiresOf 39 = .ok (.ireturn, 1) := by decide +kernel
set_option maxRecDepth 20000 in
theorem ggX8_costume_X8_isCostume : GoodIn wsX8_costume wsX8_isCostume := goodIn_r _ [7, 8, 9, 10, 6, 11, 40, 41, 42, 43, 44, 45, 46, 47, 48, 49, 50, 51] (by decide +kernel) (by decide +kernel)
set_option maxRecDepth 20000 in
theorem gX8_costume_X8_isCostume : GoodIn wsX8_costume (wsV RX8 58 RX8 yX8_isCostume wsX8_isCostume) := goodIn_app (goodIn_of _ (by decide +kernel)) ggX8_costume_X8_isCostume
set_option maxRecDepth 20000 in
theorem ggX8_costume_X8_in : GoodIn wsX8_costume wsX8_in := goodIn_r _ [11] (by decide +kernel) (by decide +kernel)
set_option maxRecDepth 20000 in
theorem gX8_costume_X8_in : GoodIn wsX8_costume (va_wsS RX8 32 yX8_in wsX8_in) := goodIn_app (goodIn_of _ (by decide +kernel)) ggX8_costume_X8_in
set_option maxRecDepth 20000 in
theorem ggX8_costume_X8_present : GoodIn wsX8_costume wsX8_present := goodIn_r _ [15, 16, 17, 18, 6, 19, 8, 40, 41, 42, 43, 44, 45, 46, 47, 48, 49, 50, 51] (by decide +kernel) (by decide +kernel)
set_option maxRecDepth 20000 in
theorem gX8_costume_X8_present : GoodIn wsX8_costume (wsV RX8 78 RX8 yX8_present wsX8_present) := goodIn_app (goodIn_of _ (by decide +kernel)) ggX8_costume_X8_present
set_option maxRecDepth 20000 in
theorem ggX8_costume_X8_of : GoodIn wsX8_costume wsX8_of := goodIn_r _ [19, 8, 40, 41, 42, 43, 44, 45, 46, 47, 48, 49, 50, 51] (by decide +kernel) (by decide +kernel)
set_option maxRecDepth 20000 in
theorem gX8_costume_X8_of : GoodIn wsX8_costume (wsV RX8 75 RX8 yX8_of wsX8_of) := goodIn_app (goodIn_of _ (by decide +kernel)) ggX8_costume_X8_of
set_option maxRecDepth 20000 in
theorem ggX8_costume_X8_scenesOf : GoodIn wsX8_costume wsX8_scenesOf := goodIn_r _ [23, 24, 25, 26, 6, 27, 8, 28, 29, 30, 31, 40, 41, 42, 43, 44, 45, 46, 47, 48, 49, 50, 51] (by decide +kernel) (by decide +kernel)
set_option maxRecDepth 20000 in
theorem gX8_costume_X8_scenesOf : GoodIn wsX8_costume (wsV RX8 200 RX8 yX8_scenesOf wsX8_scenesOf) := goodIn_app (goodIn_of _ (by decide +kernel)) ggX8_costume_X8_scenesOf
set_option maxRecDepth 20000 in
theorem ggX8_costume_X8_hiresOf : GoodIn wsX8_costume wsX8_hiresOf := goodIn_r _ [35, 8, 36, 37, 38, 6, 39, 40, 41, 42, 43, 44, 45, 46, 47, 48, 49, 50, 51] (by decide +kernel) (by decide +kernel)
set_option maxRecDepth 20000 in
theorem gX8_costume_X8_hiresOf : GoodIn wsX8_costume (wsV RX8 240 RX8 yX8_hiresOf wsX8_hiresOf) := goodIn_app (goodIn_of _ (by decide +kernel)) ggX8_costume_X8_hiresOf
theorem dX8_costume_0 : decode cX8_costume 0 = .ok (.aload_n 0, 1) := by decide +kernel
theorem dX8_costume_1 : decode cX8_costume 1 = .ok (.iconst 0, 1) := by decide +kernel
theorem dX8_costume_2 : decode cX8_costume 2 = .ok (.putfield 22, 3) := by decide +kernel
theorem dX8_costume_5 : decode cX8_costume 5 = .ok (.aload_n 0, 1) := by decide +kernel
theorem dX8_costume_6 : decode cX8_costume 6 = .ok (.iload_n 1, 1) := by decide +kernel
theorem dX8_costume_7 : decode cX8_costume 7 = .ok (.invokevirtual 58, 3) := by decide +kernel
theorem dX8_costume_10 : decode cX8_costume 10 = .ok (.ifCond .eq 15, 3) := by decide +kernel
theorem dX8_costume_13 : decode cX8_costume 13 = .ok (.iload_n 2, 1) := by decide +kernel
theorem dX8_costume_14 : decode cX8_costume 14 = .ok (.i2l, 1) := by decide +kernel
theorem dX8_costume_15 : decode cX8_costume 15 = .ok (.lconst 0, 1) := by decide +kernel
theorem dX8_costume_16 : decode cX8_costume 16 = .ok (.ldc2_w 236, 3) := by decide +kernel
theorem dX8_costume_19 : decode cX8_costume 19 = .ok (.invokestatic 32, 3) := by decide +kernel
theorem dX8_costume_22 : decode cX8_costume 22 = .ok (.ifCond .ne 7, 3) := by decide +kernel
theorem dX8_costume_25 : decode cX8_costume 25 = .ok (.sipush (-2001), 3) := by decide +kernel
theorem dX8_costume_28 : decode cX8_costume 28 = .ok (.ireturn, 1) := by decide +kernel
theorem dX8_costume_29 : decode cX8_costume 29 = .ok (.iload_n 2, 1) := by decide +kernel
theorem dX8_costume_30 : decode cX8_costume 30 = .ok (.iconst 3, 1) := by decide +kernel
theorem dX8_costume_31 : decode cX8_costume 31 = .ok (.if_icmp .ge 10, 3) := by decide +kernel
theorem dX8_costume_34 : decode cX8_costume 34 = .ok (.aload_n 0, 1) := by decide +kernel
theorem dX8_costume_35 : decode cX8_costume 35 = .ok (.iload_n 1, 1) := by decide +kernel
theorem dX8_costume_36 : decode cX8_costume 36 = .ok (.iload_n 2, 1) := by decide +kernel
theorem dX8_costume_37 : decode cX8_costume 37 = .ok (.invokevirtual 78, 3) := by decide +kernel
theorem dX8_costume_40 : decode cX8_costume 40 = .ok (.ireturn, 1) := by decide +kernel
theorem dX8_costume_41 : decode cX8_costume 41 = .ok (.iload_n 2, 1) := by decide +kernel
theorem dX8_costume_42 : decode cX8_costume 42 = .ok (.bipush 11, 2) := by decide +kernel
theorem dX8_costume_44 : decode cX8_costume 44 = .ok (.if_icmp .ge 14, 3) := by decide +kernel
theorem dX8_costume_47 : decode cX8_costume 47 = .ok (.aload_n 0, 1) := by decide +kernel
theorem dX8_costume_48 : decode cX8_costume 48 = .ok (.iload_n 1, 1) := by decide +kernel
theorem dX8_costume_49 : decode cX8_costume 49 = .ok (.iload_n 2, 1) := by decide +kernel
theorem dX8_costume_50 : decode cX8_costume 50 = .ok (.iconst 3, 1) := by decide +kernel
theorem dX8_costume_51 : decode cX8_costume 51 = .ok (.isub, 1) := by decide +kernel
theorem dX8_costume_52 : decode cX8_costume 52 = .ok (.invokevirtual 75, 3) := by decide +kernel
theorem dX8_costume_55 : decode cX8_costume 55 = .ok (.goto 22, 3) := by decide +kernel
theorem dX8_costume_58 : decode cX8_costume 58 = .ok (.iload_n 2, 1) := by decide +kernel
theorem dX8_costume_59 : decode cX8_costume 59 = .ok (.bipush 11, 2) := by decide +kernel
theorem dX8_costume_61 : decode cX8_costume 61 = .ok (.if_icmp .ne 11, 3) := by decide +kernel
theorem dX8_costume_64 : decode cX8_costume 64 = .ok (.aload_n 0, 1) := by decide +kernel
theorem dX8_costume_65 : decode cX8_costume 65 = .ok (.iload_n 1, 1) := by decide +kernel
theorem dX8_costume_66 : decode cX8_costume 66 = .ok (.invokevirtual 200, 3) := by decide +kernel
theorem dX8_costume_69 : decode cX8_costume 69 = .ok (.goto 8, 3) := by decide +kernel
theorem dX8_costume_72 : decode cX8_costume 72 = .ok (.aload_n 0, 1) := by decide +kernel
theorem dX8_costume_73 : decode cX8_costume 73 = .ok (.iload_n 1, 1) := by decide +kernel
theorem dX8_costume_74 : decode cX8_costume 74 = .ok (.invokevirtual 240, 3) := by decide +kernel
theorem dX8_costume_77 : decode cX8_costume 77 = .ok (.ireturn, 1) := by decide +kernel
set_option maxRecDepth 20000 in
theorem ggX8_alteration_X8_isCostume : GoodIn wsX8_alteration wsX8_isCostume := goodIn_r _ [6, 7, 8, 9, 5, 10, 15, 16, 17, 18, 19, 20, 21, 22, 23, 24, 25, 26] (by decide +kernel) (by decide +kernel)
set_option maxRecDepth 20000 in
theorem gX8_alteration_X8_isCostume : GoodIn wsX8_alteration (wsV RX8 58 RX8 yX8_isCostume wsX8_isCostume) := goodIn_app (goodIn_of _ (by decide +kernel)) ggX8_alteration_X8_isCostume
set_option maxRecDepth 20000 in
theorem ggX8_alteration_X8_in : GoodIn wsX8_alteration wsX8_in := goodIn_r _ [10] (by decide +kernel) (by decide +kernel)
set_option maxRecDepth 20000 in
theorem gX8_alteration_X8_in : GoodIn wsX8_alteration (va_wsS RX8 32 yX8_in wsX8_in) := goodIn_app (goodIn_of _ (by decide +kernel)) ggX8_alteration_X8_in
set_option maxRecDepth 20000 in
theorem ggX8_alteration_X8_of : GoodIn wsX8_alteration wsX8_of := goodIn_r _ [14, 7, 15, 16, 17, 18, 19, 20, 21, 22, 23, 24, 25, 26] (by decide +kernel) (by decide +kernel)
set_option maxRecDepth 20000 in
theorem gX8_alteration_X8_of : GoodIn wsX8_alteration (wsV RX8 75 RX8 yX8_of wsX8_of) := goodIn_app (goodIn_of _ (by decide +kernel)) ggX8_alteration_X8_of
theorem dX8_alteration_0 : decode cX8_alteration 0 = .ok (.aload_n 0, 1) := by decide +kernel
theorem dX8_alteration_1 : decode cX8_alteration 1 = .ok (.iconst 0, 1) := by decide +kernel
theorem dX8_alteration_2 : decode cX8_alteration 2 = .ok (.putfield 22, 3) := by decide +kernel
theorem dX8_alteration_5 : decode cX8_alteration 5 = .ok (.aload_n 0, 1) := by decide +kernel
theorem dX8_alteration_6 : decode cX8_alteration 6 = .ok (.iload_n 1, 1) := by decide +kernel
theorem dX8_alteration_7 : decode cX8_alteration 7 = .ok (.invokevirtual 58, 3) := by decide +kernel
theorem dX8_alteration_10 : decode cX8_alteration 10 = .ok (.ifCond .eq 17, 3) := by decide +kernel
theorem dX8_alteration_13 : decode cX8_alteration 13 = .ok (.iload_n 2, 1) := by decide +kernel
theorem dX8_alteration_14 : decode cX8_alteration 14 = .ok (.ifCond .lt 13, 3) := by decide +kernel
theorem dX8_alteration_17 : decode cX8_alteration 17 = .ok (.iload_n 3, 1) := by decide +kernel
theorem dX8_alteration_18 : decode cX8_alteration 18 = .ok (.i2l, 1) := by decide +kernel
theorem dX8_alteration_19 : decode cX8_alteration 19 = .ok (.lconst 0, 1) := by decide +kernel
theorem dX8_alteration_20 : decode cX8_alteration 20 = .ok (.lconst 1, 1) := by decide +kernel
theorem dX8_alteration_21 : decode cX8_alteration 21 = .ok (.invokestatic 32, 3) := by decide +kernel
theorem dX8_alteration_24 : decode cX8_alteration 24 = .ok (.ifCond .ne 7, 3) := by decide +kernel
theorem dX8_alteration_27 : decode cX8_alteration 27 = .ok (.sipush (-2001), 3) := by decide +kernel
theorem dX8_alteration_30 : decode cX8_alteration 30 = .ok (.ireturn, 1) := by decide +kernel
theorem dX8_alteration_31 : decode cX8_alteration 31 = .ok (.iload_n 2, 1) := by decide +kernel
theorem dX8_alteration_32 : decode cX8_alteration 32 = .ok (.aload_n 0, 1) := by decide +kernel
theorem dX8_alteration_33 : decode cX8_alteration 33 = .ok (.iload_n 1, 1) := by decide +kernel
theorem dX8_alteration_34 : decode cX8_alteration 34 = .ok (.bipush 7, 2) := by decide +kernel
theorem dX8_alteration_36 : decode cX8_alteration 36 = .ok (.invokevirtual 75, 3) := by decide +kernel
theorem dX8_alteration_39 : decode cX8_alteration 39 = .ok (.if_icmp .ge 19, 3) := by decide +kernel
theorem dX8_alteration_42 : decode cX8_alteration 42 = .ok (.aload_n 0, 1) := by decide +kernel
theorem dX8_alteration_43 : decode cX8_alteration 43 = .ok (.iload_n 1, 1) := by decide +kernel
theorem dX8_alteration_44 : decode cX8_alteration 44 = .ok (.bipush 8, 2) := by decide +kernel
theorem dX8_alteration_46 : decode cX8_alteration 46 = .ok (.iconst 2, 1) := by decide +kernel
theorem dX8_alteration_47 : decode cX8_alteration 47 = .ok (.iload_n 2, 1) := by decide +kernel
theorem dX8_alteration_48 : decode cX8_alteration 48 = .ok (.imul, 1) := by decide +kernel
theorem dX8_alteration_49 : decode cX8_alteration 49 = .ok (.iadd, 1) := by decide +kernel
theorem dX8_alteration_50 : decode cX8_alteration 50 = .ok (.iload_n 3, 1) := by decide +kernel
theorem dX8_alteration_51 : decode cX8_alteration 51 = .ok (.iadd, 1) := by decide +kernel
theorem dX8_alteration_52 : decode cX8_alteration 52 = .ok (.invokevirtual 75, 3) := by decide +kernel
theorem dX8_alteration_55 : decode cX8_alteration 55 = .ok (.goto 6, 3) := by decide +kernel
theorem dX8_alteration_58 : decode cX8_alteration 58 = .ok (.sipush (-2009), 3) := by decide +kernel
theorem dX8_alteration_61 : decode cX8_alteration 61 = .ok (.ireturn, 1) := by decide +kernel
set_option maxRecDepth 20000 in
theorem ggX8_actor_X8_isActor : GoodIn wsX8_actor wsX8_isActor := goodIn_r _ [7, 8, 9, 10, 6, 11, 20, 21, 22, 23, 24, 25, 26, 27, 28, 29, 30, 31] (by decide +kernel) (by decide +kernel)
set_option maxRecDepth 20000 in
theorem gX8_actor_X8_isActor : GoodIn wsX8_actor (wsV RX8 169 RX8 yX8_isActor wsX8_isActor) := goodIn_app (goodIn_of _ (by decide +kernel)) ggX8_actor_X8_isActor
set_option maxRecDepth 20000 in
theorem ggX8_actor_X8_in : GoodIn wsX8_actor wsX8_in := goodIn_r _ [11] (by decide +kernel) (by decide +kernel)
set_option maxRecDepth 20000 in
theorem gX8_actor_X8_in : GoodIn wsX8_actor (va_wsS RX8 32 yX8_in wsX8_in) := goodIn_app (goodIn_of _ (by decide +kernel)) ggX8_actor_X8_in
set_option maxRecDepth 20000 in
theorem ggX8_actor_X8_measureOf : GoodIn wsX8_actor wsX8_measureOf := goodIn_r _ [15, 8, 20, 21, 22, 23, 24, 25, 26, 27, 28, 29, 30, 31] (by decide +kernel) (by decide +kernel)
set_option maxRecDepth 20000 in
theorem gX8_actor_X8_measureOf : GoodIn wsX8_actor (wsV RX8 184 RX8 yX8_measureOf wsX8_measureOf) := goodIn_app (goodIn_of _ (by decide +kernel)) ggX8_actor_X8_measureOf
set_option maxRecDepth 20000 in
theorem ggX8_actor_X8_worn : GoodIn wsX8_actor wsX8_worn := goodIn_r _ [19, 8, 20, 21, 22, 23, 24, 25, 26, 27, 28, 29, 30, 31] (by decide +kernel) (by decide +kernel)
set_option maxRecDepth 20000 in
theorem gX8_actor_X8_worn : GoodIn wsX8_actor (wsV RX8 172 RX8 yX8_worn wsX8_worn) := goodIn_app (goodIn_of _ (by decide +kernel)) ggX8_actor_X8_worn
theorem dX8_actor_0 : decode cX8_actor 0 = .ok (.aload_n 0, 1) := by decide +kernel
theorem dX8_actor_1 : decode cX8_actor 1 = .ok (.iconst 0, 1) := by decide +kernel
theorem dX8_actor_2 : decode cX8_actor 2 = .ok (.putfield 22, 3) := by decide +kernel
theorem dX8_actor_5 : decode cX8_actor 5 = .ok (.aload_n 0, 1) := by decide +kernel
theorem dX8_actor_6 : decode cX8_actor 6 = .ok (.iload_n 1, 1) := by decide +kernel
theorem dX8_actor_7 : decode cX8_actor 7 = .ok (.invokevirtual 169, 3) := by decide +kernel
theorem dX8_actor_10 : decode cX8_actor 10 = .ok (.ifCond .eq 15, 3) := by decide +kernel
theorem dX8_actor_13 : decode cX8_actor 13 = .ok (.iload_n 2, 1) := by decide +kernel
theorem dX8_actor_14 : decode cX8_actor 14 = .ok (.i2l, 1) := by decide +kernel
theorem dX8_actor_15 : decode cX8_actor 15 = .ok (.lconst 0, 1) := by decide +kernel
theorem dX8_actor_16 : decode cX8_actor 16 = .ok (.ldc2_w 243, 3) := by decide +kernel
theorem dX8_actor_19 : decode cX8_actor 19 = .ok (.invokestatic 32, 3) := by decide +kernel
theorem dX8_actor_22 : decode cX8_actor 22 = .ok (.ifCond .ne 7, 3) := by decide +kernel
theorem dX8_actor_25 : decode cX8_actor 25 = .ok (.sipush (-2001), 3) := by decide +kernel
theorem dX8_actor_28 : decode cX8_actor 28 = .ok (.ireturn, 1) := by decide +kernel
theorem dX8_actor_29 : decode cX8_actor 29 = .ok (.iload_n 2, 1) := by decide +kernel
theorem dX8_actor_30 : decode cX8_actor 30 = .ok (.iconst 3, 1) := by decide +kernel
theorem dX8_actor_31 : decode cX8_actor 31 = .ok (.if_icmp .ge 12, 3) := by decide +kernel
theorem dX8_actor_34 : decode cX8_actor 34 = .ok (.aload_n 0, 1) := by decide +kernel
theorem dX8_actor_35 : decode cX8_actor 35 = .ok (.iload_n 1, 1) := by decide +kernel
theorem dX8_actor_36 : decode cX8_actor 36 = .ok (.iload_n 2, 1) := by decide +kernel
theorem dX8_actor_37 : decode cX8_actor 37 = .ok (.invokevirtual 184, 3) := by decide +kernel
theorem dX8_actor_40 : decode cX8_actor 40 = .ok (.goto 11, 3) := by decide +kernel
theorem dX8_actor_43 : decode cX8_actor 43 = .ok (.aload_n 0, 1) := by decide +kernel
theorem dX8_actor_44 : decode cX8_actor 44 = .ok (.iload_n 2, 1) := by decide +kernel
theorem dX8_actor_45 : decode cX8_actor 45 = .ok (.iconst 3, 1) := by decide +kernel
theorem dX8_actor_46 : decode cX8_actor 46 = .ok (.isub, 1) := by decide +kernel
theorem dX8_actor_47 : decode cX8_actor 47 = .ok (.iload_n 1, 1) := by decide +kernel
theorem dX8_actor_48 : decode cX8_actor 48 = .ok (.invokevirtual 172, 3) := by decide +kernel
theorem dX8_actor_51 : decode cX8_actor 51 = .ok (.ireturn, 1) := by decide +kernel
set_option maxRecDepth 20000 in
theorem ggX8_hired_X8_in : GoodIn wsX8_hired wsX8_in := goodIn_r _ [7] (by decide +kernel) (by decide +kernel)
set_option maxRecDepth 20000 in
theorem gX8_hired_X8_in : GoodIn wsX8_hired (va_wsS RX8 32 yX8_in wsX8_in) := goodIn_app (goodIn_of _ (by decide +kernel)) ggX8_hired_X8_in
set_option maxRecDepth 20000 in
theorem ggX8_hired_X8_ofHire : GoodIn wsX8_hired wsX8_ofHire := goodIn_r _ [11, 2, 12, 13, 14, 15, 16, 17, 18, 19, 20, 21, 22, 23] (by decide +kernel) (by decide +kernel)
set_option maxRecDepth 20000 in
theorem gX8_hired_X8_ofHire : GoodIn wsX8_hired (wsV RX8 81 RX8 yX8_ofHire wsX8_ofHire) := goodIn_app (goodIn_of _ (by decide +kernel)) ggX8_hired_X8_ofHire
theorem dX8_hired_0 : decode cX8_hired 0 = .ok (.aload_n 0, 1) := by decide +kernel
theorem dX8_hired_1 : decode cX8_hired 1 = .ok (.iconst 0, 1) := by decide +kernel
theorem dX8_hired_2 : decode cX8_hired 2 = .ok (.putfield 22, 3) := by decide +kernel
theorem dX8_hired_5 : decode cX8_hired 5 = .ok (.iload_n 1, 1) := by decide +kernel
theorem dX8_hired_6 : decode cX8_hired 6 = .ok (.i2l, 1) := by decide +kernel
theorem dX8_hired_7 : decode cX8_hired 7 = .ok (.lconst 0, 1) := by decide +kernel
theorem dX8_hired_8 : decode cX8_hired 8 = .ok (.aload_n 0, 1) := by decide +kernel
theorem dX8_hired_9 : decode cX8_hired 9 = .ok (.getfield 7, 3) := by decide +kernel
theorem dX8_hired_12 : decode cX8_hired 12 = .ok (.iconst 2, 1) := by decide +kernel
theorem dX8_hired_13 : decode cX8_hired 13 = .ok (.iaload, 1) := by decide +kernel
theorem dX8_hired_14 : decode cX8_hired 14 = .ok (.iconst 1, 1) := by decide +kernel
theorem dX8_hired_15 : decode cX8_hired 15 = .ok (.isub, 1) := by decide +kernel
theorem dX8_hired_16 : decode cX8_hired 16 = .ok (.i2l, 1) := by decide +kernel
theorem dX8_hired_17 : decode cX8_hired 17 = .ok (.invokestatic 32, 3) := by decide +kernel
theorem dX8_hired_20 : decode cX8_hired 20 = .ok (.ifCond .eq 24, 3) := by decide +kernel
theorem dX8_hired_23 : decode cX8_hired 23 = .ok (.iload_n 2, 1) := by decide +kernel
theorem dX8_hired_24 : decode cX8_hired 24 = .ok (.i2l, 1) := by decide +kernel
theorem dX8_hired_25 : decode cX8_hired 25 = .ok (.lconst 0, 1) := by decide +kernel
theorem dX8_hired_26 : decode cX8_hired 26 = .ok (.ldc2_w 52, 3) := by decide +kernel
theorem dX8_hired_29 : decode cX8_hired 29 = .ok (.invokestatic 32, 3) := by decide +kernel
theorem dX8_hired_32 : decode cX8_hired 32 = .ok (.ifCond .eq 12, 3) := by decide +kernel
theorem dX8_hired_35 : decode cX8_hired 35 = .ok (.aload_n 0, 1) := by decide +kernel
theorem dX8_hired_36 : decode cX8_hired 36 = .ok (.iload_n 1, 1) := by decide +kernel
theorem dX8_hired_37 : decode cX8_hired 37 = .ok (.iload_n 2, 1) := by decide +kernel
theorem dX8_hired_38 : decode cX8_hired 38 = .ok (.invokevirtual 81, 3) := by decide +kernel
theorem dX8_hired_41 : decode cX8_hired 41 = .ok (.goto 6, 3) := by decide +kernel
theorem dX8_hired_44 : decode cX8_hired 44 = .ok (.sipush (-2001), 3) := by decide +kernel
theorem dX8_hired_47 : decode cX8_hired 47 = .ok (.ireturn, 1) := by decide +kernel
set_option maxRecDepth 20000 in
theorem ggX8_problems_X8_in : GoodIn wsX8_problems wsX8_in := goodIn_r _ [6] (by decide +kernel) (by decide +kernel)
set_option maxRecDepth 20000 in
theorem gX8_problems_X8_in : GoodIn wsX8_problems (va_wsS RX8 32 yX8_in wsX8_in) := goodIn_app (goodIn_of _ (by decide +kernel)) ggX8_problems_X8_in
set_option maxRecDepth 20000 in
theorem ggX8_problems_X8_problemsOf : GoodIn wsX8_problems wsX8_problemsOf := goodIn_r _ [10, 11, 12, 13, 14, 5, 15, 16, 17, 18, 19, 20, 21, 22, 23, 24, 25, 26, 27, 28, 29, 30, 31, 32, 33, 34, 35, 36, 37, 38, 39, 40, 41, 42, 43, 44, 45, 46, 47, 48, 49, 50, 51, 52, 53, 54, 55, 56, 57, 58, 59, 60, 61, 62, 63, 64, 65, 66, 3, 4, 6, 67, 68, 69, 70, 71, 72, 73, 74, 75, 76, 77, 78] (by decide +kernel) (by decide +kernel)
set_option maxRecDepth 20000 in
theorem gX8_problems_X8_problemsOf : GoodIn wsX8_problems (wsV RX8 197 RX8 yX8_problemsOf wsX8_problemsOf) := goodIn_app (goodIn_of _ (by decide +kernel)) ggX8_problems_X8_problemsOf
theorem dX8_problems_0 : decode cX8_problems 0 = .ok (.aload_n 0, 1) := by decide +kernel
theorem dX8_problems_1 : decode cX8_problems 1 = .ok (.iconst 0, 1) := by decide +kernel
theorem dX8_problems_2 : decode cX8_problems 2 = .ok (.putfield 22, 3) := by decide +kernel
theorem dX8_problems_5 : decode cX8_problems 5 = .ok (.iload_n 1, 1) := by decide +kernel
theorem dX8_problems_6 : decode cX8_problems 6 = .ok (.i2l, 1) := by decide +kernel
theorem dX8_problems_7 : decode cX8_problems 7 = .ok (.lconst 0, 1) := by decide +kernel
theorem dX8_problems_8 : decode cX8_problems 8 = .ok (.ldc2_w 245, 3) := by decide +kernel
theorem dX8_problems_11 : decode cX8_problems 11 = .ok (.invokestatic 32, 3) := by decide +kernel
theorem dX8_problems_14 : decode cX8_problems 14 = .ok (.ifCond .eq 11, 3) := by decide +kernel
theorem dX8_problems_17 : decode cX8_problems 17 = .ok (.aload_n 0, 1) := by decide +kernel
theorem dX8_problems_18 : decode cX8_problems 18 = .ok (.iload_n 1, 1) := by decide +kernel
theorem dX8_problems_19 : decode cX8_problems 19 = .ok (.invokevirtual 197, 3) := by decide +kernel
theorem dX8_problems_22 : decode cX8_problems 22 = .ok (.goto 6, 3) := by decide +kernel
theorem dX8_problems_25 : decode cX8_problems 25 = .ok (.sipush (-2001), 3) := by decide +kernel
theorem dX8_problems_28 : decode cX8_problems 28 = .ok (.ireturn, 1) := by decide +kernel
set_option maxRecDepth 20000 in
theorem ggX8_misfit_X8_isCostume : GoodIn wsX8_misfit wsX8_isCostume := goodIn_r _ [6, 7, 8, 9, 5, 10, 38, 39, 40, 41, 42, 43, 44, 45, 46, 47, 48, 49] (by decide +kernel) (by decide +kernel)
set_option maxRecDepth 20000 in
theorem gX8_misfit_X8_isCostume : GoodIn wsX8_misfit (wsV RX8 58 RX8 yX8_isCostume wsX8_isCostume) := goodIn_app (goodIn_of _ (by decide +kernel)) ggX8_misfit_X8_isCostume
set_option maxRecDepth 20000 in
theorem ggX8_misfit_X8_isActor : GoodIn wsX8_misfit wsX8_isActor := goodIn_r _ [14, 7, 8, 9, 5, 10, 38, 39, 40, 41, 42, 43, 44, 45, 46, 47, 48, 49] (by decide +kernel) (by decide +kernel)
set_option maxRecDepth 20000 in
theorem gX8_misfit_X8_isActor : GoodIn wsX8_misfit (wsV RX8 169 RX8 yX8_isActor wsX8_isActor) := goodIn_app (goodIn_of _ (by decide +kernel)) ggX8_misfit_X8_isActor
set_option maxRecDepth 20000 in
theorem ggX8_misfit_X8_misfitOf : GoodIn wsX8_misfit wsX8_misfitOf := goodIn_r _ [18, 19, 20, 21, 5, 22, 7, 23, 24, 25, 26, 27, 28, 29, 30, 31, 32, 33, 34, 35, 36, 37, 38, 39, 40, 41, 42, 43, 44, 45, 46, 47, 48, 49] (by decide +kernel) (by decide +kernel)
set_option maxRecDepth 20000 in
theorem gX8_misfit_X8_misfitOf : GoodIn wsX8_misfit (wsV RX8 187 RX8 yX8_misfitOf wsX8_misfitOf) := goodIn_app (goodIn_of _ (by decide +kernel)) ggX8_misfit_X8_misfitOf
theorem dX8_misfit_0 : decode cX8_misfit 0 = .ok (.aload_n 0, 1) := by decide +kernel
theorem dX8_misfit_1 : decode cX8_misfit 1 = .ok (.iconst 0, 1) := by decide +kernel
theorem dX8_misfit_2 : decode cX8_misfit 2 = .ok (.putfield 22, 3) := by decide +kernel
theorem dX8_misfit_5 : decode cX8_misfit 5 = .ok (.aload_n 0, 1) := by decide +kernel
theorem dX8_misfit_6 : decode cX8_misfit 6 = .ok (.iload_n 1, 1) := by decide +kernel
theorem dX8_misfit_7 : decode cX8_misfit 7 = .ok (.invokevirtual 58, 3) := by decide +kernel
theorem dX8_misfit_10 : decode cX8_misfit 10 = .ok (.ifCond .eq 20, 3) := by decide +kernel
theorem dX8_misfit_13 : decode cX8_misfit 13 = .ok (.aload_n 0, 1) := by decide +kernel
theorem dX8_misfit_14 : decode cX8_misfit 14 = .ok (.iload_n 2, 1) := by decide +kernel
theorem dX8_misfit_15 : decode cX8_misfit 15 = .ok (.invokevirtual 169, 3) := by decide +kernel
theorem dX8_misfit_18 : decode cX8_misfit 18 = .ok (.ifCond .eq 12, 3) := by decide +kernel
theorem dX8_misfit_21 : decode cX8_misfit 21 = .ok (.aload_n 0, 1) := by decide +kernel
theorem dX8_misfit_22 : decode cX8_misfit 22 = .ok (.iload_n 1, 1) := by decide +kernel
theorem dX8_misfit_23 : decode cX8_misfit 23 = .ok (.iload_n 2, 1) := by decide +kernel
theorem dX8_misfit_24 : decode cX8_misfit 24 = .ok (.invokevirtual 187, 3) := by decide +kernel
theorem dX8_misfit_27 : decode cX8_misfit 27 = .ok (.goto 6, 3) := by decide +kernel
theorem dX8_misfit_30 : decode cX8_misfit 30 = .ok (.sipush (-2001), 3) := by decide +kernel
theorem dX8_misfit_33 : decode cX8_misfit 33 = .ok (.ireturn, 1) := by decide +kernel
set_option maxRecDepth 20000 in
theorem ggX8_leastOf_X8_wantedOf : GoodIn wsX8_leastOf wsX8_wantedOf := goodIn_r _ [7, 8, 9, 10, 11, 6, 12, 13, 14, 15, 16, 17, 18, 19, 20, 31, 32, 33, 34, 35, 36, 37, 38, 39, 40, 41, 42] (by decide +kernel) (by decide +kernel)
set_option maxRecDepth 20000 in
theorem gX8_leastOf_X8_wantedOf : GoodIn wsX8_leastOf (wsV RX8 181 RX8 yX8_wantedOf wsX8_wantedOf) := goodIn_app (goodIn_of _ (by decide +kernel)) ggX8_leastOf_X8_wantedOf
set_option maxRecDepth 20000 in
theorem ggX8_leastOf_X8_present : GoodIn wsX8_leastOf wsX8_present := goodIn_r _ [12, 13, 14, 15, 6, 16, 8, 31, 32, 33, 34, 35, 36, 37, 38, 39, 40, 41, 42] (by decide +kernel) (by decide +kernel)
set_option maxRecDepth 20000 in
theorem gX8_leastOf_X8_present : GoodIn wsX8_leastOf (wsV RX8 78 RX8 yX8_present wsX8_present) := goodIn_app (goodIn_of _ (by decide +kernel)) ggX8_leastOf_X8_present
set_option maxRecDepth 20000 in
theorem ggX8_leastOf_X8_in : GoodIn wsX8_leastOf wsX8_in := goodIn_r _ [23] (by decide +kernel) (by decide +kernel)
set_option maxRecDepth 20000 in
theorem gX8_leastOf_X8_in : GoodIn wsX8_leastOf (va_wsS RX8 32 yX8_in wsX8_in) := goodIn_app (goodIn_of _ (by decide +kernel)) ggX8_leastOf_X8_in
set_option maxRecDepth 20000 in
theorem ggX8_leastOf_X8_isAllowed : GoodIn wsX8_leastOf wsX8_isAllowed := goodIn_r _ [27, 9, 10, 11, 6, 12, 13, 14, 15, 16, 8, 31, 32, 33, 34, 35, 36, 37, 38, 39, 40, 41, 42] (by decide +kernel) (by decide +kernel)
set_option maxRecDepth 20000 in
theorem gX8_leastOf_X8_isAllowed : GoodIn wsX8_leastOf (wsV RX8 95 RX8 yX8_isAllowed wsX8_isAllowed) := goodIn_app (goodIn_of _ (by decide +kernel)) ggX8_leastOf_X8_isAllowed
set_option maxRecDepth 20000 in
theorem ggX8_leastOf_X8_distance : GoodIn wsX8_leastOf wsX8_distance := goodIn_r _ [30] (by decide +kernel) (by decide +kernel)
set_option maxRecDepth 20000 in
theorem gX8_leastOf_X8_distance : GoodIn wsX8_leastOf (va_wsS RX8 99 yX8_distance wsX8_distance) := goodIn_app (goodIn_of _ (by decide +kernel)) ggX8_leastOf_X8_distance
set_option maxRecDepth 20000 in
theorem ggX8_leastOf_X8_of : GoodIn wsX8_leastOf wsX8_of := goodIn_r _ [16, 8, 31, 32, 33, 34, 35, 36, 37, 38, 39, 40, 41, 42] (by decide +kernel) (by decide +kernel)
set_option maxRecDepth 20000 in
theorem gX8_leastOf_X8_of : GoodIn wsX8_leastOf (wsV RX8 75 RX8 yX8_of wsX8_of) := goodIn_app (goodIn_of _ (by decide +kernel)) ggX8_leastOf_X8_of
theorem dX8_leastOf_0 : decode cX8_leastOf 0 = .ok (.iconst 0, 1) := by decide +kernel
theorem dX8_leastOf_1 : decode cX8_leastOf 1 = .ok (.istore_n 3, 1) := by decide +kernel
theorem dX8_leastOf_2 : decode cX8_leastOf 2 = .ok (.iconst 0, 1) := by decide +kernel
theorem dX8_leastOf_3 : decode cX8_leastOf 3 = .ok (.istore 4, 2) := by decide +kernel
theorem dX8_leastOf_5 : decode cX8_leastOf 5 = .ok (.iconst 0, 1) := by decide +kernel
theorem dX8_leastOf_6 : decode cX8_leastOf 6 = .ok (.istore 5, 2) := by decide +kernel
theorem dX8_leastOf_8 : decode cX8_leastOf 8 = .ok (.iload 5, 2) := by decide +kernel
theorem dX8_leastOf_10 : decode cX8_leastOf 10 = .ok (.iconst 3, 1) := by decide +kernel
theorem dX8_leastOf_11 : decode cX8_leastOf 11 = .ok (.if_icmp .ge 75, 3) := by decide +kernel
theorem dX8_leastOf_14 : decode cX8_leastOf 14 = .ok (.aload_n 0, 1) := by decide +kernel
theorem dX8_leastOf_15 : decode cX8_leastOf 15 = .ok (.iload_n 1, 1) := by decide +kernel
theorem dX8_leastOf_16 : decode cX8_leastOf 16 = .ok (.iload_n 2, 1) := by decide +kernel
theorem dX8_leastOf_17 : decode cX8_leastOf 17 = .ok (.iload 5, 2) := by decide +kernel
theorem dX8_leastOf_19 : decode cX8_leastOf 19 = .ok (.invokevirtual 181, 3) := by decide +kernel
theorem dX8_leastOf_22 : decode cX8_leastOf 22 = .ok (.aload_n 0, 1) := by decide +kernel
theorem dX8_leastOf_23 : decode cX8_leastOf 23 = .ok (.iload_n 1, 1) := by decide +kernel
theorem dX8_leastOf_24 : decode cX8_leastOf 24 = .ok (.iload 5, 2) := by decide +kernel
theorem dX8_leastOf_26 : decode cX8_leastOf 26 = .ok (.invokevirtual 78, 3) := by decide +kernel
theorem dX8_leastOf_29 : decode cX8_leastOf 29 = .ok (.isub, 1) := by decide +kernel
theorem dX8_leastOf_30 : decode cX8_leastOf 30 = .ok (.istore 6, 2) := by decide +kernel
theorem dX8_leastOf_32 : decode cX8_leastOf 32 = .ok (.iload 6, 2) := by decide +kernel
theorem dX8_leastOf_34 : decode cX8_leastOf 34 = .ok (.ifCond .eq 46, 3) := by decide +kernel
theorem dX8_leastOf_37 : decode cX8_leastOf 37 = .ok (.iload 6, 2) := by decide +kernel
theorem dX8_leastOf_39 : decode cX8_leastOf 39 = .ok (.i2l, 1) := by decide +kernel
theorem dX8_leastOf_40 : decode cX8_leastOf 40 = .ok (.ldc2_w 88, 3) := by decide +kernel
theorem dX8_leastOf_43 : decode cX8_leastOf 43 = .ok (.ldc2_w 90, 3) := by decide +kernel
theorem dX8_leastOf_46 : decode cX8_leastOf 46 = .ok (.invokestatic 32, 3) := by decide +kernel
theorem dX8_leastOf_49 : decode cX8_leastOf 49 = .ok (.ifCond .eq 15, 3) := by decide +kernel
theorem dX8_leastOf_52 : decode cX8_leastOf 52 = .ok (.aload_n 0, 1) := by decide +kernel
theorem dX8_leastOf_53 : decode cX8_leastOf 53 = .ok (.iload_n 1, 1) := by decide +kernel
theorem dX8_leastOf_54 : decode cX8_leastOf 54 = .ok (.iload 5, 2) := by decide +kernel
theorem dX8_leastOf_56 : decode cX8_leastOf 56 = .ok (.iload 6, 2) := by decide +kernel
theorem dX8_leastOf_58 : decode cX8_leastOf 58 = .ok (.invokevirtual 95, 3) := by decide +kernel
theorem dX8_leastOf_61 : decode cX8_leastOf 61 = .ok (.ifCond .ne 7, 3) := by decide +kernel
theorem dX8_leastOf_64 : decode cX8_leastOf 64 = .ok (.sipush (-2009), 3) := by decide +kernel
theorem dX8_leastOf_67 : decode cX8_leastOf 67 = .ok (.ireturn, 1) := by decide +kernel
theorem dX8_leastOf_68 : decode cX8_leastOf 68 = .ok (.iinc 4 1, 3) := by decide +kernel
theorem dX8_leastOf_71 : decode cX8_leastOf 71 = .ok (.iload_n 3, 1) := by decide +kernel
theorem dX8_leastOf_72 : decode cX8_leastOf 72 = .ok (.iload 6, 2) := by decide +kernel
theorem dX8_leastOf_74 : decode cX8_leastOf 74 = .ok (.iconst 0, 1) := by decide +kernel
theorem dX8_leastOf_75 : decode cX8_leastOf 75 = .ok (.invokestatic 99, 3) := by decide +kernel
theorem dX8_leastOf_78 : decode cX8_leastOf 78 = .ok (.iadd, 1) := by decide +kernel
theorem dX8_leastOf_79 : decode cX8_leastOf 79 = .ok (.istore_n 3, 1) := by decide +kernel
theorem dX8_leastOf_80 : decode cX8_leastOf 80 = .ok (.iinc 5 1, 3) := by decide +kernel
theorem dX8_leastOf_83 : decode cX8_leastOf 83 = .ok (.goto (-75), 3) := by decide +kernel
theorem dX8_leastOf_86 : decode cX8_leastOf 86 = .ok (.iload 4, 2) := by decide +kernel
theorem dX8_leastOf_88 : decode cX8_leastOf 88 = .ok (.bipush 6, 2) := by decide +kernel
theorem dX8_leastOf_90 : decode cX8_leastOf 90 = .ok (.aload_n 0, 1) := by decide +kernel
theorem dX8_leastOf_91 : decode cX8_leastOf 91 = .ok (.iload_n 1, 1) := by decide +kernel
theorem dX8_leastOf_92 : decode cX8_leastOf 92 = .ok (.bipush 7, 2) := by decide +kernel
theorem dX8_leastOf_94 : decode cX8_leastOf 94 = .ok (.invokevirtual 75, 3) := by decide +kernel
theorem dX8_leastOf_97 : decode cX8_leastOf 97 = .ok (.isub, 1) := by decide +kernel
theorem dX8_leastOf_98 : decode cX8_leastOf 98 = .ok (.if_icmp .le 9, 3) := by decide +kernel
theorem dX8_leastOf_101 : decode cX8_leastOf 101 = .ok (.sipush (-2009), 3) := by decide +kernel
theorem dX8_leastOf_104 : decode cX8_leastOf 104 = .ok (.goto 4, 3) := by decide +kernel
theorem dX8_leastOf_107 : decode cX8_leastOf 107 = .ok (.iload_n 3, 1) := by decide +kernel
theorem dX8_leastOf_108 : decode cX8_leastOf 108 = .ok (.ireturn, 1) := by decide +kernel
set_option maxRecDepth 20000 in
theorem ggX8_leastAlteration_X8_isCostume : GoodIn wsX8_leastAlteration wsX8_isCostume := goodIn_r _ [6, 7, 8, 9, 5, 10, 44, 45, 46, 47, 48, 49, 50, 51, 52, 53, 54, 55] (by decide +kernel) (by decide +kernel)
set_option maxRecDepth 20000 in
theorem gX8_leastAlteration_X8_isCostume : GoodIn wsX8_leastAlteration (wsV RX8 58 RX8 yX8_isCostume wsX8_isCostume) := goodIn_app (goodIn_of _ (by decide +kernel)) ggX8_leastAlteration_X8_isCostume
set_option maxRecDepth 20000 in
theorem ggX8_leastAlteration_X8_isActor : GoodIn wsX8_leastAlteration wsX8_isActor := goodIn_r _ [14, 7, 8, 9, 5, 10, 44, 45, 46, 47, 48, 49, 50, 51, 52, 53, 54, 55] (by decide +kernel) (by decide +kernel)
set_option maxRecDepth 20000 in
theorem gX8_leastAlteration_X8_isActor : GoodIn wsX8_leastAlteration (wsV RX8 169 RX8 yX8_isActor wsX8_isActor) := goodIn_app (goodIn_of _ (by decide +kernel)) ggX8_leastAlteration_X8_isActor
set_option maxRecDepth 20000 in
theorem ggX8_leastAlteration_X8_leastOf : GoodIn wsX8_leastAlteration wsX8_leastOf := goodIn_r _ [18, 19, 20, 21, 22, 23, 5, 24, 7, 25, 26, 27, 28, 29, 30, 31, 32, 33, 34, 35, 36, 8, 9, 10, 37, 38, 39, 40, 41, 42, 43, 44, 45, 46, 47, 48, 49, 50, 51, 52, 53, 54, 55] (by decide +kernel) (by decide +kernel)
set_option maxRecDepth 20000 in
theorem gX8_leastAlteration_X8_leastOf : GoodIn wsX8_leastAlteration (wsV RX8 247 RX8 yX8_leastOf wsX8_leastOf) := goodIn_app (goodIn_of _ (by decide +kernel)) ggX8_leastAlteration_X8_leastOf
theorem dX8_leastAlteration_0 : decode cX8_leastAlteration 0 = .ok (.aload_n 0, 1) := by decide +kernel
theorem dX8_leastAlteration_1 : decode cX8_leastAlteration 1 = .ok (.iconst 0, 1) := by decide +kernel
theorem dX8_leastAlteration_2 : decode cX8_leastAlteration 2 = .ok (.putfield 22, 3) := by decide +kernel
theorem dX8_leastAlteration_5 : decode cX8_leastAlteration 5 = .ok (.aload_n 0, 1) := by decide +kernel
theorem dX8_leastAlteration_6 : decode cX8_leastAlteration 6 = .ok (.iload_n 1, 1) := by decide +kernel
theorem dX8_leastAlteration_7 : decode cX8_leastAlteration 7 = .ok (.invokevirtual 58, 3) := by decide +kernel
theorem dX8_leastAlteration_10 : decode cX8_leastAlteration 10 = .ok (.ifCond .eq 20, 3) := by decide +kernel
theorem dX8_leastAlteration_13 : decode cX8_leastAlteration 13 = .ok (.aload_n 0, 1) := by decide +kernel
theorem dX8_leastAlteration_14 : decode cX8_leastAlteration 14 = .ok (.iload_n 2, 1) := by decide +kernel
theorem dX8_leastAlteration_15 : decode cX8_leastAlteration 15 = .ok (.invokevirtual 169, 3) := by decide +kernel
theorem dX8_leastAlteration_18 : decode cX8_leastAlteration 18 = .ok (.ifCond .eq 12, 3) := by decide +kernel
theorem dX8_leastAlteration_21 : decode cX8_leastAlteration 21 = .ok (.aload_n 0, 1) := by decide +kernel
theorem dX8_leastAlteration_22 : decode cX8_leastAlteration 22 = .ok (.iload_n 1, 1) := by decide +kernel
theorem dX8_leastAlteration_23 : decode cX8_leastAlteration 23 = .ok (.iload_n 2, 1) := by decide +kernel
theorem dX8_leastAlteration_24 : decode cX8_leastAlteration 24 = .ok (.invokevirtual 247, 3) := by decide +kernel
theorem dX8_leastAlteration_27 : decode cX8_leastAlteration 27 = .ok (.goto 6, 3) := by decide +kernel
theorem dX8_leastAlteration_30 : decode cX8_leastAlteration 30 = .ok (.sipush (-2001), 3) := by decide +kernel
theorem dX8_leastAlteration_33 : decode cX8_leastAlteration 33 = .ok (.ireturn, 1) := by decide +kernel
set_option maxRecDepth 20000 in
theorem ggX8_isTaken_X8_isScene : GoodIn wsX8_isTaken wsX8_isScene := goodIn_r _ [4, 5, 6, 7, 3, 8] (by decide +kernel) (by decide +kernel)
set_option maxRecDepth 20000 in
theorem gX8_isTaken_X8_isScene : GoodIn wsX8_isTaken (va_wsS RX8 166 yX8_isScene wsX8_isScene) := goodIn_app (goodIn_of _ (by decide +kernel)) ggX8_isTaken_X8_isScene
set_option maxRecDepth 20000 in
theorem ggX8_isTaken_X8_wearers : GoodIn wsX8_isTaken wsX8_wearers := goodIn_r _ [12, 13, 14, 15, 16, 3, 17, 18, 19, 20, 21, 22, 23, 24, 25, 26, 27, 28, 29] (by decide +kernel) (by decide +kernel)
set_option maxRecDepth 20000 in
theorem gX8_isTaken_X8_wearers : GoodIn wsX8_isTaken (wsV RX8 175 RX8 yX8_wearers wsX8_wearers) := goodIn_app (goodIn_of _ (by decide +kernel)) ggX8_isTaken_X8_wearers
set_option maxRecDepth 20000 in
theorem ggX8_isTaken_X8_worn : GoodIn wsX8_isTaken wsX8_worn := goodIn_r _ [17, 13, 18, 19, 20, 21, 22, 23, 24, 25, 26, 27, 28, 29] (by decide +kernel) (by decide +kernel)
set_option maxRecDepth 20000 in
theorem gX8_isTaken_X8_worn : GoodIn wsX8_isTaken (wsV RX8 172 RX8 yX8_worn wsX8_worn) := goodIn_app (goodIn_of _ (by decide +kernel)) ggX8_isTaken_X8_worn
theorem dX8_isTaken_0 : decode cX8_isTaken 0 = .ok (.iload_n 1, 1) := by decide +kernel
theorem dX8_isTaken_1 : decode cX8_isTaken 1 = .ok (.invokestatic 166, 3) := by decide +kernel
theorem dX8_isTaken_4 : decode cX8_isTaken 4 = .ok (.ifCond .eq 31, 3) := by decide +kernel
theorem dX8_isTaken_7 : decode cX8_isTaken 7 = .ok (.aload_n 0, 1) := by decide +kernel
theorem dX8_isTaken_8 : decode cX8_isTaken 8 = .ok (.iload_n 1, 1) := by decide +kernel
theorem dX8_isTaken_9 : decode cX8_isTaken 9 = .ok (.iload_n 3, 1) := by decide +kernel
theorem dX8_isTaken_10 : decode cX8_isTaken 10 = .ok (.invokevirtual 175, 3) := by decide +kernel
theorem dX8_isTaken_13 : decode cX8_isTaken 13 = .ok (.aload_n 0, 1) := by decide +kernel
theorem dX8_isTaken_14 : decode cX8_isTaken 14 = .ok (.iload_n 1, 1) := by decide +kernel
theorem dX8_isTaken_15 : decode cX8_isTaken 15 = .ok (.iload_n 2, 1) := by decide +kernel
theorem dX8_isTaken_16 : decode cX8_isTaken 16 = .ok (.invokevirtual 172, 3) := by decide +kernel
theorem dX8_isTaken_19 : decode cX8_isTaken 19 = .ok (.iload_n 3, 1) := by decide +kernel
theorem dX8_isTaken_20 : decode cX8_isTaken 20 = .ok (.if_icmp .ne 7, 3) := by decide +kernel
theorem dX8_isTaken_23 : decode cX8_isTaken 23 = .ok (.iconst 1, 1) := by decide +kernel
theorem dX8_isTaken_24 : decode cX8_isTaken 24 = .ok (.goto 4, 3) := by decide +kernel
theorem dX8_isTaken_27 : decode cX8_isTaken 27 = .ok (.iconst 0, 1) := by decide +kernel
theorem dX8_isTaken_28 : decode cX8_isTaken 28 = .ok (.if_icmp .le 7, 3) := by decide +kernel
theorem dX8_isTaken_31 : decode cX8_isTaken 31 = .ok (.iconst 1, 1) := by decide +kernel
theorem dX8_isTaken_32 : decode cX8_isTaken 32 = .ok (.goto 4, 3) := by decide +kernel
theorem dX8_isTaken_35 : decode cX8_isTaken 35 = .ok (.iconst 0, 1) := by decide +kernel
theorem dX8_isTaken_36 : decode cX8_isTaken 36 = .ok (.ireturn, 1) := by decide +kernel
set_option maxRecDepth 20000 in
theorem ggX8_costumeFor_X8_isScene : GoodIn wsX8_costumeFor wsX8_isScene := goodIn_r _ [6, 7, 8, 9, 5, 10] (by decide +kernel) (by decide +kernel)
set_option maxRecDepth 20000 in
theorem gX8_costumeFor_X8_isScene : GoodIn wsX8_costumeFor (va_wsS RX8 166 yX8_isScene wsX8_isScene) := goodIn_app (goodIn_of _ (by decide +kernel)) ggX8_costumeFor_X8_isScene
set_option maxRecDepth 20000 in
theorem ggX8_costumeFor_X8_isActor : GoodIn wsX8_costumeFor wsX8_isActor := goodIn_r _ [14, 2, 8, 9, 5, 10, 68, 69, 70, 71, 72, 73, 74, 75, 76, 77, 78, 79] (by decide +kernel) (by decide +kernel)
set_option maxRecDepth 20000 in
theorem gX8_costumeFor_X8_isActor : GoodIn wsX8_costumeFor (wsV RX8 169 RX8 yX8_isActor wsX8_isActor) := goodIn_app (goodIn_of _ (by decide +kernel)) ggX8_costumeFor_X8_isActor
set_option maxRecDepth 20000 in
theorem ggX8_costumeFor_X8_isTaken : GoodIn wsX8_costumeFor wsX8_isTaken := goodIn_r _ [18, 3, 4, 5, 6, 7, 8, 9, 10, 19, 20, 21, 22, 2, 23, 24, 25, 26, 68, 69, 70, 71, 72, 73, 74, 75, 76, 77, 78, 79] (by decide +kernel) (by decide +kernel)
set_option maxRecDepth 20000 in
theorem gX8_costumeFor_X8_isTaken : GoodIn wsX8_costumeFor (wsV RX8 250 RX8 yX8_isTaken wsX8_isTaken) := goodIn_app (goodIn_of _ (by decide +kernel)) ggX8_costumeFor_X8_isTaken
set_option maxRecDepth 20000 in
theorem ggX8_costumeFor_X8_isAwayToday : GoodIn wsX8_costumeFor wsX8_isAwayToday := goodIn_r _ [30, 2, 31, 32, 33, 5, 34, 35, 36, 37, 38, 8, 9, 10, 68, 69, 70, 71, 72, 73, 74, 75, 76, 77, 78, 79] (by decide +kernel) (by decide +kernel)
set_option maxRecDepth 20000 in
theorem gX8_costumeFor_X8_isAwayToday : GoodIn wsX8_costumeFor (wsV RX8 92 RX8 yX8_isAwayToday wsX8_isAwayToday) := goodIn_app (goodIn_of _ (by decide +kernel)) ggX8_costumeFor_X8_isAwayToday
set_option maxRecDepth 20000 in
theorem ggX8_costumeFor_X8_of : GoodIn wsX8_costumeFor wsX8_of := goodIn_r _ [42, 2, 68, 69, 70, 71, 72, 73, 74, 75, 76, 77, 78, 79] (by decide +kernel) (by decide +kernel)
set_option maxRecDepth 20000 in
theorem gX8_costumeFor_X8_of : GoodIn wsX8_costumeFor (wsV RX8 75 RX8 yX8_of wsX8_of) := goodIn_app (goodIn_of _ (by decide +kernel)) ggX8_costumeFor_X8_of
set_option maxRecDepth 20000 in
theorem ggX8_costumeFor_X8_leastOf : GoodIn wsX8_costumeFor wsX8_leastOf := goodIn_r _ [46, 47, 48, 49, 50, 51, 5, 52, 2, 53, 54, 55, 56, 39, 40, 41, 42, 57, 58, 59, 60, 8, 9, 10, 61, 62, 63, 64, 65, 66, 67, 68, 69, 70, 71, 72, 73, 74, 75, 76, 77, 78, 79] (by decide +kernel) (by decide +kernel)
set_option maxRecDepth 20000 in
theorem gX8_costumeFor_X8_leastOf : GoodIn wsX8_costumeFor (wsV RX8 247 RX8 yX8_leastOf wsX8_leastOf) := goodIn_app (goodIn_of _ (by decide +kernel)) ggX8_costumeFor_X8_leastOf
theorem dX8_costumeFor_0 : decode cX8_costumeFor 0 = .ok (.aload_n 0, 1) := by decide +kernel
theorem dX8_costumeFor_1 : decode cX8_costumeFor 1 = .ok (.iconst 0, 1) := by decide +kernel
theorem dX8_costumeFor_2 : decode cX8_costumeFor 2 = .ok (.putfield 22, 3) := by decide +kernel
theorem dX8_costumeFor_5 : decode cX8_costumeFor 5 = .ok (.iload_n 1, 1) := by decide +kernel
theorem dX8_costumeFor_6 : decode cX8_costumeFor 6 = .ok (.invokestatic 166, 3) := by decide +kernel
theorem dX8_costumeFor_9 : decode cX8_costumeFor 9 = .ok (.ifCond .eq 11, 3) := by decide +kernel
theorem dX8_costumeFor_12 : decode cX8_costumeFor 12 = .ok (.aload_n 0, 1) := by decide +kernel
theorem dX8_costumeFor_13 : decode cX8_costumeFor 13 = .ok (.iload_n 2, 1) := by decide +kernel
theorem dX8_costumeFor_14 : decode cX8_costumeFor 14 = .ok (.invokevirtual 169, 3) := by decide +kernel
theorem dX8_costumeFor_17 : decode cX8_costumeFor 17 = .ok (.ifCond .ne 7, 3) := by decide +kernel
theorem dX8_costumeFor_20 : decode cX8_costumeFor 20 = .ok (.sipush (-2001), 3) := by decide +kernel
theorem dX8_costumeFor_23 : decode cX8_costumeFor 23 = .ok (.ireturn, 1) := by decide +kernel
theorem dX8_costumeFor_24 : decode cX8_costumeFor 24 = .ok (.sipush (-2009), 3) := by decide +kernel
theorem dX8_costumeFor_27 : decode cX8_costumeFor 27 = .ok (.istore_n 3, 1) := by decide +kernel
theorem dX8_costumeFor_28 : decode cX8_costumeFor 28 = .ok (.iconst 0, 1) := by decide +kernel
theorem dX8_costumeFor_29 : decode cX8_costumeFor 29 = .ok (.istore 4, 2) := by decide +kernel
theorem dX8_costumeFor_31 : decode cX8_costumeFor 31 = .ok (.iload 4, 2) := by decide +kernel
theorem dX8_costumeFor_33 : decode cX8_costumeFor 33 = .ok (.aload_n 0, 1) := by decide +kernel
theorem dX8_costumeFor_34 : decode cX8_costumeFor 34 = .ok (.getfield 7, 3) := by decide +kernel
theorem dX8_costumeFor_37 : decode cX8_costumeFor 37 = .ok (.iconst 0, 1) := by decide +kernel
theorem dX8_costumeFor_38 : decode cX8_costumeFor 38 = .ok (.iaload, 1) := by decide +kernel
theorem dX8_costumeFor_39 : decode cX8_costumeFor 39 = .ok (.if_icmp .ge 140, 3) := by decide +kernel
theorem dX8_costumeFor_42 : decode cX8_costumeFor 42 = .ok (.aload_n 0, 1) := by decide +kernel
theorem dX8_costumeFor_43 : decode cX8_costumeFor 43 = .ok (.iload_n 1, 1) := by decide +kernel
theorem dX8_costumeFor_44 : decode cX8_costumeFor 44 = .ok (.iload_n 2, 1) := by decide +kernel
theorem dX8_costumeFor_45 : decode cX8_costumeFor 45 = .ok (.iload 4, 2) := by decide +kernel
theorem dX8_costumeFor_47 : decode cX8_costumeFor 47 = .ok (.invokevirtual 250, 3) := by decide +kernel
theorem dX8_costumeFor_50 : decode cX8_costumeFor 50 = .ok (.ifCond .ne 33, 3) := by decide +kernel
theorem dX8_costumeFor_53 : decode cX8_costumeFor 53 = .ok (.aload_n 0, 1) := by decide +kernel
theorem dX8_costumeFor_54 : decode cX8_costumeFor 54 = .ok (.iload_n 1, 1) := by decide +kernel
theorem dX8_costumeFor_55 : decode cX8_costumeFor 55 = .ok (.iconst 1, 1) := by decide +kernel
theorem dX8_costumeFor_56 : decode cX8_costumeFor 56 = .ok (.isub, 1) := by decide +kernel
theorem dX8_costumeFor_57 : decode cX8_costumeFor 57 = .ok (.iload_n 2, 1) := by decide +kernel
theorem dX8_costumeFor_58 : decode cX8_costumeFor 58 = .ok (.iload 4, 2) := by decide +kernel
theorem dX8_costumeFor_60 : decode cX8_costumeFor 60 = .ok (.invokevirtual 250, 3) := by decide +kernel
theorem dX8_costumeFor_63 : decode cX8_costumeFor 63 = .ok (.ifCond .ne 20, 3) := by decide +kernel
theorem dX8_costumeFor_66 : decode cX8_costumeFor 66 = .ok (.aload_n 0, 1) := by decide +kernel
theorem dX8_costumeFor_67 : decode cX8_costumeFor 67 = .ok (.iload_n 1, 1) := by decide +kernel
theorem dX8_costumeFor_68 : decode cX8_costumeFor 68 = .ok (.iconst 1, 1) := by decide +kernel
theorem dX8_costumeFor_69 : decode cX8_costumeFor 69 = .ok (.iadd, 1) := by decide +kernel
theorem dX8_costumeFor_70 : decode cX8_costumeFor 70 = .ok (.iload_n 2, 1) := by decide +kernel
theorem dX8_costumeFor_71 : decode cX8_costumeFor 71 = .ok (.iload 4, 2) := by decide +kernel
theorem dX8_costumeFor_73 : decode cX8_costumeFor 73 = .ok (.invokevirtual 250, 3) := by decide +kernel
theorem dX8_costumeFor_76 : decode cX8_costumeFor 76 = .ok (.ifCond .ne 7, 3) := by decide +kernel
theorem dX8_costumeFor_79 : decode cX8_costumeFor 79 = .ok (.iconst 1, 1) := by decide +kernel
theorem dX8_costumeFor_80 : decode cX8_costumeFor 80 = .ok (.goto 4, 3) := by decide +kernel
theorem dX8_costumeFor_83 : decode cX8_costumeFor 83 = .ok (.iconst 0, 1) := by decide +kernel
theorem dX8_costumeFor_84 : decode cX8_costumeFor 84 = .ok (.istore 5, 2) := by decide +kernel
theorem dX8_costumeFor_86 : decode cX8_costumeFor 86 = .ok (.iload 5, 2) := by decide +kernel
theorem dX8_costumeFor_88 : decode cX8_costumeFor 88 = .ok (.ifCond .eq 47, 3) := by decide +kernel
theorem dX8_costumeFor_91 : decode cX8_costumeFor 91 = .ok (.aload_n 0, 1) := by decide +kernel
theorem dX8_costumeFor_92 : decode cX8_costumeFor 92 = .ok (.iload 4, 2) := by decide +kernel
theorem dX8_costumeFor_94 : decode cX8_costumeFor 94 = .ok (.invokevirtual 92, 3) := by decide +kernel
theorem dX8_costumeFor_97 : decode cX8_costumeFor 97 = .ok (.ifCond .ne 38, 3) := by decide +kernel
theorem dX8_costumeFor_100 : decode cX8_costumeFor 100 = .ok (.aload_n 0, 1) := by decide +kernel
theorem dX8_costumeFor_101 : decode cX8_costumeFor 101 = .ok (.iload 4, 2) := by decide +kernel
theorem dX8_costumeFor_103 : decode cX8_costumeFor 103 = .ok (.bipush 6, 2) := by decide +kernel
theorem dX8_costumeFor_105 : decode cX8_costumeFor 105 = .ok (.invokevirtual 75, 3) := by decide +kernel
theorem dX8_costumeFor_108 : decode cX8_costumeFor 108 = .ok (.aload_n 0, 1) := by decide +kernel
theorem dX8_costumeFor_109 : decode cX8_costumeFor 109 = .ok (.getfield 7, 3) := by decide +kernel
theorem dX8_costumeFor_112 : decode cX8_costumeFor 112 = .ok (.bipush 11, 2) := by decide +kernel
theorem dX8_costumeFor_114 : decode cX8_costumeFor 114 = .ok (.iaload, 1) := by decide +kernel
theorem dX8_costumeFor_115 : decode cX8_costumeFor 115 = .ok (.if_icmp .ge 20, 3) := by decide +kernel
theorem dX8_costumeFor_118 : decode cX8_costumeFor 118 = .ok (.aload_n 0, 1) := by decide +kernel
theorem dX8_costumeFor_119 : decode cX8_costumeFor 119 = .ok (.iload 4, 2) := by decide +kernel
theorem dX8_costumeFor_121 : decode cX8_costumeFor 121 = .ok (.iload_n 2, 1) := by decide +kernel
theorem dX8_costumeFor_122 : decode cX8_costumeFor 122 = .ok (.invokevirtual 247, 3) := by decide +kernel
theorem dX8_costumeFor_125 : decode cX8_costumeFor 125 = .ok (.sipush (-2009), 3) := by decide +kernel
theorem dX8_costumeFor_128 : decode cX8_costumeFor 128 = .ok (.if_icmp .eq 7, 3) := by decide +kernel
theorem dX8_costumeFor_131 : decode cX8_costumeFor 131 = .ok (.iconst 1, 1) := by decide +kernel
theorem dX8_costumeFor_132 : decode cX8_costumeFor 132 = .ok (.goto 4, 3) := by decide +kernel
theorem dX8_costumeFor_135 : decode cX8_costumeFor 135 = .ok (.iconst 0, 1) := by decide +kernel
theorem dX8_costumeFor_136 : decode cX8_costumeFor 136 = .ok (.istore 5, 2) := by decide +kernel
theorem dX8_costumeFor_138 : decode cX8_costumeFor 138 = .ok (.iload 5, 2) := by decide +kernel
theorem dX8_costumeFor_140 : decode cX8_costumeFor 140 = .ok (.ifCond .eq 31, 3) := by decide +kernel
theorem dX8_costumeFor_143 : decode cX8_costumeFor 143 = .ok (.iload_n 3, 1) := by decide +kernel
theorem dX8_costumeFor_144 : decode cX8_costumeFor 144 = .ok (.sipush (-2009), 3) := by decide +kernel
theorem dX8_costumeFor_147 : decode cX8_costumeFor 147 = .ok (.if_icmp .eq 19, 3) := by decide +kernel
theorem dX8_costumeFor_150 : decode cX8_costumeFor 150 = .ok (.aload_n 0, 1) := by decide +kernel
theorem dX8_costumeFor_151 : decode cX8_costumeFor 151 = .ok (.iload 4, 2) := by decide +kernel
theorem dX8_costumeFor_153 : decode cX8_costumeFor 153 = .ok (.iload_n 2, 1) := by decide +kernel
theorem dX8_costumeFor_154 : decode cX8_costumeFor 154 = .ok (.invokevirtual 247, 3) := by decide +kernel
theorem dX8_costumeFor_157 : decode cX8_costumeFor 157 = .ok (.aload_n 0, 1) := by decide +kernel
theorem dX8_costumeFor_158 : decode cX8_costumeFor 158 = .ok (.iload_n 3, 1) := by decide +kernel
theorem dX8_costumeFor_159 : decode cX8_costumeFor 159 = .ok (.iload_n 2, 1) := by decide +kernel
theorem dX8_costumeFor_160 : decode cX8_costumeFor 160 = .ok (.invokevirtual 247, 3) := by decide +kernel
theorem dX8_costumeFor_163 : decode cX8_costumeFor 163 = .ok (.if_icmp .ge 8, 3) := by decide +kernel
theorem dX8_costumeFor_166 : decode cX8_costumeFor 166 = .ok (.iload 4, 2) := by decide +kernel
theorem dX8_costumeFor_168 : decode cX8_costumeFor 168 = .ok (.goto 4, 3) := by decide +kernel
theorem dX8_costumeFor_171 : decode cX8_costumeFor 171 = .ok (.iload_n 3, 1) := by decide +kernel
theorem dX8_costumeFor_172 : decode cX8_costumeFor 172 = .ok (.istore_n 3, 1) := by decide +kernel
theorem dX8_costumeFor_173 : decode cX8_costumeFor 173 = .ok (.iinc 4 1, 3) := by decide +kernel
theorem dX8_costumeFor_176 : decode cX8_costumeFor 176 = .ok (.goto (-145), 3) := by decide +kernel
theorem dX8_costumeFor_179 : decode cX8_costumeFor 179 = .ok (.iload_n 3, 1) := by decide +kernel
theorem dX8_costumeFor_180 : decode cX8_costumeFor 180 = .ok (.ireturn, 1) := by decide +kernel
set_option maxRecDepth 20000 in
theorem ggX8_freeFrom_X8_isCostume : GoodIn wsX8_freeFrom wsX8_isCostume := goodIn_r _ [8, 3, 9, 10, 7, 11, 20, 21, 22, 23, 24, 25, 26, 27, 28, 29, 30, 31] (by decide +kernel) (by decide +kernel)
set_option maxRecDepth 20000 in
theorem gX8_freeFrom_X8_isCostume : GoodIn wsX8_freeFrom (wsV RX8 58 RX8 yX8_isCostume wsX8_isCostume) := goodIn_app (goodIn_of _ (by decide +kernel)) ggX8_freeFrom_X8_isCostume
set_option maxRecDepth 20000 in
theorem ggX8_freeFrom_X8_in : GoodIn wsX8_freeFrom wsX8_in := goodIn_r _ [11] (by decide +kernel) (by decide +kernel)
set_option maxRecDepth 20000 in
theorem gX8_freeFrom_X8_in : GoodIn wsX8_freeFrom (va_wsS RX8 32 yX8_in wsX8_in) := goodIn_app (goodIn_of _ (by decide +kernel)) ggX8_freeFrom_X8_in
set_option maxRecDepth 20000 in
theorem ggX8_freeFrom_X8_isAwayIn : GoodIn wsX8_freeFrom wsX8_isAwayIn := goodIn_r _ [15, 3, 16, 17, 18, 7, 19, 20, 21, 22, 23, 24, 25, 26, 27, 28, 29, 30, 31] (by decide +kernel) (by decide +kernel)
set_option maxRecDepth 20000 in
theorem gX8_freeFrom_X8_isAwayIn : GoodIn wsX8_freeFrom (wsV RX8 209 RX8 yX8_isAwayIn wsX8_isAwayIn) := goodIn_app (goodIn_of _ (by decide +kernel)) ggX8_freeFrom_X8_isAwayIn
theorem dX8_freeFrom_0 : decode cX8_freeFrom 0 = .ok (.aload_n 0, 1) := by decide +kernel
theorem dX8_freeFrom_1 : decode cX8_freeFrom 1 = .ok (.iconst 0, 1) := by decide +kernel
theorem dX8_freeFrom_2 : decode cX8_freeFrom 2 = .ok (.putfield 22, 3) := by decide +kernel
theorem dX8_freeFrom_5 : decode cX8_freeFrom 5 = .ok (.aload_n 0, 1) := by decide +kernel
theorem dX8_freeFrom_6 : decode cX8_freeFrom 6 = .ok (.iload_n 1, 1) := by decide +kernel
theorem dX8_freeFrom_7 : decode cX8_freeFrom 7 = .ok (.invokevirtual 58, 3) := by decide +kernel
theorem dX8_freeFrom_10 : decode cX8_freeFrom 10 = .ok (.ifCond .eq 15, 3) := by decide +kernel
theorem dX8_freeFrom_13 : decode cX8_freeFrom 13 = .ok (.iload_n 2, 1) := by decide +kernel
theorem dX8_freeFrom_14 : decode cX8_freeFrom 14 = .ok (.i2l, 1) := by decide +kernel
theorem dX8_freeFrom_15 : decode cX8_freeFrom 15 = .ok (.lconst 1, 1) := by decide +kernel
theorem dX8_freeFrom_16 : decode cX8_freeFrom 16 = .ok (.ldc2_w 203, 3) := by decide +kernel
theorem dX8_freeFrom_19 : decode cX8_freeFrom 19 = .ok (.invokestatic 32, 3) := by decide +kernel
theorem dX8_freeFrom_22 : decode cX8_freeFrom 22 = .ok (.ifCond .ne 7, 3) := by decide +kernel
theorem dX8_freeFrom_25 : decode cX8_freeFrom 25 = .ok (.sipush (-2001), 3) := by decide +kernel
theorem dX8_freeFrom_28 : decode cX8_freeFrom 28 = .ok (.ireturn, 1) := by decide +kernel
theorem dX8_freeFrom_29 : decode cX8_freeFrom 29 = .ok (.aload_n 0, 1) := by decide +kernel
theorem dX8_freeFrom_30 : decode cX8_freeFrom 30 = .ok (.getfield 7, 3) := by decide +kernel
theorem dX8_freeFrom_33 : decode cX8_freeFrom 33 = .ok (.iconst 3, 1) := by decide +kernel
theorem dX8_freeFrom_34 : decode cX8_freeFrom 34 = .ok (.iaload, 1) := by decide +kernel
theorem dX8_freeFrom_35 : decode cX8_freeFrom 35 = .ok (.istore_n 3, 1) := by decide +kernel
theorem dX8_freeFrom_36 : decode cX8_freeFrom 36 = .ok (.aload_n 0, 1) := by decide +kernel
theorem dX8_freeFrom_37 : decode cX8_freeFrom 37 = .ok (.iload_n 1, 1) := by decide +kernel
theorem dX8_freeFrom_38 : decode cX8_freeFrom 38 = .ok (.iload_n 3, 1) := by decide +kernel
theorem dX8_freeFrom_39 : decode cX8_freeFrom 39 = .ok (.iload_n 2, 1) := by decide +kernel
theorem dX8_freeFrom_40 : decode cX8_freeFrom 40 = .ok (.invokevirtual 209, 3) := by decide +kernel
theorem dX8_freeFrom_43 : decode cX8_freeFrom 43 = .ok (.ifCond .eq 9, 3) := by decide +kernel
theorem dX8_freeFrom_46 : decode cX8_freeFrom 46 = .ok (.iinc 3 1, 3) := by decide +kernel
theorem dX8_freeFrom_49 : decode cX8_freeFrom 49 = .ok (.goto (-13), 3) := by decide +kernel
theorem dX8_freeFrom_52 : decode cX8_freeFrom 52 = .ok (.iload_n 3, 1) := by decide +kernel
theorem dX8_freeFrom_53 : decode cX8_freeFrom 53 = .ok (.ireturn, 1) := by decide +kernel
set_option maxRecDepth 20000 in
theorem ggX8_washable_X8_in : GoodIn wsX8_washable wsX8_in := goodIn_r _ [7] (by decide +kernel) (by decide +kernel)
set_option maxRecDepth 20000 in
theorem gX8_washable_X8_in : GoodIn wsX8_washable (va_wsS RX8 32 yX8_in wsX8_in) := goodIn_app (goodIn_of _ (by decide +kernel)) ggX8_washable_X8_in
set_option maxRecDepth 20000 in
theorem ggX8_washable_X8_of : GoodIn wsX8_washable wsX8_of := goodIn_r _ [11, 3, 27, 28, 29, 30, 31, 32, 33, 34, 35, 36, 37, 38] (by decide +kernel) (by decide +kernel)
set_option maxRecDepth 20000 in
theorem gX8_washable_X8_of : GoodIn wsX8_washable (wsV RX8 75 RX8 yX8_of wsX8_of) := goodIn_app (goodIn_of _ (by decide +kernel)) ggX8_washable_X8_of
set_option maxRecDepth 20000 in
theorem ggX8_washable_X8_isAwayToday : GoodIn wsX8_washable wsX8_isAwayToday := goodIn_r _ [15, 3, 16, 17, 18, 6, 19, 20, 21, 22, 23, 4, 5, 7, 27, 28, 29, 30, 31, 32, 33, 34, 35, 36, 37, 38] (by decide +kernel) (by decide +kernel)
set_option maxRecDepth 20000 in
theorem gX8_washable_X8_isAwayToday : GoodIn wsX8_washable (wsV RX8 92 RX8 yX8_isAwayToday wsX8_isAwayToday) := goodIn_app (goodIn_of _ (by decide +kernel)) ggX8_washable_X8_isAwayToday
set_option maxRecDepth 20000 in
theorem ggX8_washable_X8_canWash : GoodIn wsX8_washable wsX8_canWash := goodIn_r _ [26] (by decide +kernel) (by decide +kernel)
set_option maxRecDepth 20000 in
theorem gX8_washable_X8_canWash : GoodIn wsX8_washable (va_wsS RX8 218 yX8_canWash wsX8_canWash) := goodIn_app (goodIn_of _ (by decide +kernel)) ggX8_washable_X8_canWash
theorem dX8_washable_0 : decode cX8_washable 0 = .ok (.aload_n 0, 1) := by decide +kernel
theorem dX8_washable_1 : decode cX8_washable 1 = .ok (.iconst 0, 1) := by decide +kernel
theorem dX8_washable_2 : decode cX8_washable 2 = .ok (.putfield 22, 3) := by decide +kernel
theorem dX8_washable_5 : decode cX8_washable 5 = .ok (.iload_n 1, 1) := by decide +kernel
theorem dX8_washable_6 : decode cX8_washable 6 = .ok (.i2l, 1) := by decide +kernel
theorem dX8_washable_7 : decode cX8_washable 7 = .ok (.lconst 0, 1) := by decide +kernel
theorem dX8_washable_8 : decode cX8_washable 8 = .ok (.ldc2_w 52, 3) := by decide +kernel
theorem dX8_washable_11 : decode cX8_washable 11 = .ok (.invokestatic 32, 3) := by decide +kernel
theorem dX8_washable_14 : decode cX8_washable 14 = .ok (.ifCond .eq 13, 3) := by decide +kernel
theorem dX8_washable_17 : decode cX8_washable 17 = .ok (.iload_n 2, 1) := by decide +kernel
theorem dX8_washable_18 : decode cX8_washable 18 = .ok (.i2l, 1) := by decide +kernel
theorem dX8_washable_19 : decode cX8_washable 19 = .ok (.lconst 0, 1) := by decide +kernel
theorem dX8_washable_20 : decode cX8_washable 20 = .ok (.lconst 1, 1) := by decide +kernel
theorem dX8_washable_21 : decode cX8_washable 21 = .ok (.invokestatic 32, 3) := by decide +kernel
theorem dX8_washable_24 : decode cX8_washable 24 = .ok (.ifCond .ne 7, 3) := by decide +kernel
theorem dX8_washable_27 : decode cX8_washable 27 = .ok (.sipush (-2001), 3) := by decide +kernel
theorem dX8_washable_30 : decode cX8_washable 30 = .ok (.ireturn, 1) := by decide +kernel
theorem dX8_washable_31 : decode cX8_washable 31 = .ok (.iconst 0, 1) := by decide +kernel
theorem dX8_washable_32 : decode cX8_washable 32 = .ok (.istore_n 3, 1) := by decide +kernel
theorem dX8_washable_33 : decode cX8_washable 33 = .ok (.iconst 0, 1) := by decide +kernel
theorem dX8_washable_34 : decode cX8_washable 34 = .ok (.istore 4, 2) := by decide +kernel
theorem dX8_washable_36 : decode cX8_washable 36 = .ok (.iload 4, 2) := by decide +kernel
theorem dX8_washable_38 : decode cX8_washable 38 = .ok (.aload_n 0, 1) := by decide +kernel
theorem dX8_washable_39 : decode cX8_washable 39 = .ok (.getfield 7, 3) := by decide +kernel
theorem dX8_washable_42 : decode cX8_washable 42 = .ok (.iconst 0, 1) := by decide +kernel
theorem dX8_washable_43 : decode cX8_washable 43 = .ok (.iaload, 1) := by decide +kernel
theorem dX8_washable_44 : decode cX8_washable 44 = .ok (.if_icmp .ge 82, 3) := by decide +kernel
theorem dX8_washable_47 : decode cX8_washable 47 = .ok (.aload_n 0, 1) := by decide +kernel
theorem dX8_washable_48 : decode cX8_washable 48 = .ok (.iload 4, 2) := by decide +kernel
theorem dX8_washable_50 : decode cX8_washable 50 = .ok (.bipush 6, 2) := by decide +kernel
theorem dX8_washable_52 : decode cX8_washable 52 = .ok (.invokevirtual 75, 3) := by decide +kernel
theorem dX8_washable_55 : decode cX8_washable 55 = .ok (.ifCond .le 46, 3) := by decide +kernel
theorem dX8_washable_58 : decode cX8_washable 58 = .ok (.aload_n 0, 1) := by decide +kernel
theorem dX8_washable_59 : decode cX8_washable 59 = .ok (.iload 4, 2) := by decide +kernel
theorem dX8_washable_61 : decode cX8_washable 61 = .ok (.invokevirtual 92, 3) := by decide +kernel
theorem dX8_washable_64 : decode cX8_washable 64 = .ok (.ifCond .ne 37, 3) := by decide +kernel
theorem dX8_washable_67 : decode cX8_washable 67 = .ok (.iload_n 1, 1) := by decide +kernel
theorem dX8_washable_68 : decode cX8_washable 68 = .ok (.aload_n 0, 1) := by decide +kernel
theorem dX8_washable_69 : decode cX8_washable 69 = .ok (.iload 4, 2) := by decide +kernel
theorem dX8_washable_71 : decode cX8_washable 71 = .ok (.iconst 4, 1) := by decide +kernel
theorem dX8_washable_72 : decode cX8_washable 72 = .ok (.invokevirtual 75, 3) := by decide +kernel
theorem dX8_washable_75 : decode cX8_washable 75 = .ok (.invokestatic 218, 3) := by decide +kernel
theorem dX8_washable_78 : decode cX8_washable 78 = .ok (.ifCond .eq 23, 3) := by decide +kernel
theorem dX8_washable_81 : decode cX8_washable 81 = .ok (.iload_n 1, 1) := by decide +kernel
theorem dX8_washable_82 : decode cX8_washable 82 = .ok (.iconst 3, 1) := by decide +kernel
theorem dX8_washable_83 : decode cX8_washable 83 = .ok (.if_icmp .eq 14, 3) := by decide +kernel
theorem dX8_washable_86 : decode cX8_washable 86 = .ok (.aload_n 0, 1) := by decide +kernel
theorem dX8_washable_87 : decode cX8_washable 87 = .ok (.iload 4, 2) := by decide +kernel
theorem dX8_washable_89 : decode cX8_washable 89 = .ok (.iconst 5, 1) := by decide +kernel
theorem dX8_washable_90 : decode cX8_washable 90 = .ok (.invokevirtual 75, 3) := by decide +kernel
theorem dX8_washable_93 : decode cX8_washable 93 = .ok (.iload_n 2, 1) := by decide +kernel
theorem dX8_washable_94 : decode cX8_washable 94 = .ok (.if_icmp .ne 7, 3) := by decide +kernel
theorem dX8_washable_97 : decode cX8_washable 97 = .ok (.iconst 1, 1) := by decide +kernel
theorem dX8_washable_98 : decode cX8_washable 98 = .ok (.goto 4, 3) := by decide +kernel
theorem dX8_washable_101 : decode cX8_washable 101 = .ok (.iconst 0, 1) := by decide +kernel
theorem dX8_washable_102 : decode cX8_washable 102 = .ok (.istore 5, 2) := by decide +kernel
theorem dX8_washable_104 : decode cX8_washable 104 = .ok (.iload_n 3, 1) := by decide +kernel
theorem dX8_washable_105 : decode cX8_washable 105 = .ok (.iload 5, 2) := by decide +kernel
theorem dX8_washable_107 : decode cX8_washable 107 = .ok (.ifCond .eq 10, 3) := by decide +kernel
theorem dX8_washable_110 : decode cX8_washable 110 = .ok (.iconst 1, 1) := by decide +kernel
theorem dX8_washable_111 : decode cX8_washable 111 = .ok (.iload 4, 2) := by decide +kernel
theorem dX8_washable_113 : decode cX8_washable 113 = .ok (.ishl, 1) := by decide +kernel
theorem dX8_washable_114 : decode cX8_washable 114 = .ok (.goto 4, 3) := by decide +kernel
theorem dX8_washable_117 : decode cX8_washable 117 = .ok (.iconst 0, 1) := by decide +kernel
theorem dX8_washable_118 : decode cX8_washable 118 = .ok (.ior, 1) := by decide +kernel
theorem dX8_washable_119 : decode cX8_washable 119 = .ok (.istore_n 3, 1) := by decide +kernel
theorem dX8_washable_120 : decode cX8_washable 120 = .ok (.iinc 4 1, 3) := by decide +kernel
theorem dX8_washable_123 : decode cX8_washable 123 = .ok (.goto (-87), 3) := by decide +kernel
theorem dX8_washable_126 : decode cX8_washable 126 = .ok (.iload_n 3, 1) := by decide +kernel
theorem dX8_washable_127 : decode cX8_washable 127 = .ok (.ireturn, 1) := by decide +kernel
theorem dJ6_bitCount_0f7a4_0 : decode cJ6_bitCount_0f7a4 0 = .ok (.iload_n 0, 1) := by decide +kernel
theorem dJ6_bitCount_0f7a4_1 : decode cJ6_bitCount_0f7a4 1 = .ok (.iload_n 0, 1) := by decide +kernel
theorem dJ6_bitCount_0f7a4_2 : decode cJ6_bitCount_0f7a4 2 = .ok (.iconst 1, 1) := by decide +kernel
theorem dJ6_bitCount_0f7a4_3 : decode cJ6_bitCount_0f7a4 3 = .ok (.iushr, 1) := by decide +kernel
theorem dJ6_bitCount_0f7a4_4 : decode cJ6_bitCount_0f7a4 4 = .ok (.ldc_w 265, 3) := by decide +kernel
theorem dJ6_bitCount_0f7a4_7 : decode cJ6_bitCount_0f7a4 7 = .ok (.iand, 1) := by decide +kernel
theorem dJ6_bitCount_0f7a4_8 : decode cJ6_bitCount_0f7a4 8 = .ok (.isub, 1) := by decide +kernel
theorem dJ6_bitCount_0f7a4_9 : decode cJ6_bitCount_0f7a4 9 = .ok (.istore_n 0, 1) := by decide +kernel
theorem dJ6_bitCount_0f7a4_10 : decode cJ6_bitCount_0f7a4 10 = .ok (.iload_n 0, 1) := by decide +kernel
theorem dJ6_bitCount_0f7a4_11 : decode cJ6_bitCount_0f7a4 11 = .ok (.ldc_w 266, 3) := by decide +kernel
theorem dJ6_bitCount_0f7a4_14 : decode cJ6_bitCount_0f7a4 14 = .ok (.iand, 1) := by decide +kernel
theorem dJ6_bitCount_0f7a4_15 : decode cJ6_bitCount_0f7a4 15 = .ok (.iload_n 0, 1) := by decide +kernel
theorem dJ6_bitCount_0f7a4_16 : decode cJ6_bitCount_0f7a4 16 = .ok (.iconst 2, 1) := by decide +kernel
theorem dJ6_bitCount_0f7a4_17 : decode cJ6_bitCount_0f7a4 17 = .ok (.iushr, 1) := by decide +kernel
theorem dJ6_bitCount_0f7a4_18 : decode cJ6_bitCount_0f7a4 18 = .ok (.ldc_w 266, 3) := by decide +kernel
theorem dJ6_bitCount_0f7a4_21 : decode cJ6_bitCount_0f7a4 21 = .ok (.iand, 1) := by decide +kernel
theorem dJ6_bitCount_0f7a4_22 : decode cJ6_bitCount_0f7a4 22 = .ok (.iadd, 1) := by decide +kernel
theorem dJ6_bitCount_0f7a4_23 : decode cJ6_bitCount_0f7a4 23 = .ok (.istore_n 0, 1) := by decide +kernel
theorem dJ6_bitCount_0f7a4_24 : decode cJ6_bitCount_0f7a4 24 = .ok (.iload_n 0, 1) := by decide +kernel
theorem dJ6_bitCount_0f7a4_25 : decode cJ6_bitCount_0f7a4 25 = .ok (.iload_n 0, 1) := by decide +kernel
theorem dJ6_bitCount_0f7a4_26 : decode cJ6_bitCount_0f7a4 26 = .ok (.iconst 4, 1) := by decide +kernel
theorem dJ6_bitCount_0f7a4_27 : decode cJ6_bitCount_0f7a4 27 = .ok (.iushr, 1) := by decide +kernel
theorem dJ6_bitCount_0f7a4_28 : decode cJ6_bitCount_0f7a4 28 = .ok (.iadd, 1) := by decide +kernel
theorem dJ6_bitCount_0f7a4_29 : decode cJ6_bitCount_0f7a4 29 = .ok (.ldc_w 267, 3) := by decide +kernel
theorem dJ6_bitCount_0f7a4_32 : decode cJ6_bitCount_0f7a4 32 = .ok (.iand, 1) := by decide +kernel
theorem dJ6_bitCount_0f7a4_33 : decode cJ6_bitCount_0f7a4 33 = .ok (.istore_n 0, 1) := by decide +kernel
theorem dJ6_bitCount_0f7a4_34 : decode cJ6_bitCount_0f7a4 34 = .ok (.iload_n 0, 1) := by decide +kernel
theorem dJ6_bitCount_0f7a4_35 : decode cJ6_bitCount_0f7a4 35 = .ok (.iload_n 0, 1) := by decide +kernel
theorem dJ6_bitCount_0f7a4_36 : decode cJ6_bitCount_0f7a4 36 = .ok (.bipush 8, 2) := by decide +kernel
theorem dJ6_bitCount_0f7a4_38 : decode cJ6_bitCount_0f7a4 38 = .ok (.iushr, 1) := by decide +kernel
theorem dJ6_bitCount_0f7a4_39 : decode cJ6_bitCount_0f7a4 39 = .ok (.iadd, 1) := by decide +kernel
theorem dJ6_bitCount_0f7a4_40 : decode cJ6_bitCount_0f7a4 40 = .ok (.istore_n 0, 1) := by decide +kernel
theorem dJ6_bitCount_0f7a4_41 : decode cJ6_bitCount_0f7a4 41 = .ok (.iload_n 0, 1) := by decide +kernel
theorem dJ6_bitCount_0f7a4_42 : decode cJ6_bitCount_0f7a4 42 = .ok (.iload_n 0, 1) := by decide +kernel
theorem dJ6_bitCount_0f7a4_43 : decode cJ6_bitCount_0f7a4 43 = .ok (.bipush 16, 2) := by decide +kernel
theorem dJ6_bitCount_0f7a4_45 : decode cJ6_bitCount_0f7a4 45 = .ok (.iushr, 1) := by decide +kernel
theorem dJ6_bitCount_0f7a4_46 : decode cJ6_bitCount_0f7a4 46 = .ok (.iadd, 1) := by decide +kernel
theorem dJ6_bitCount_0f7a4_47 : decode cJ6_bitCount_0f7a4 47 = .ok (.istore_n 0, 1) := by decide +kernel
theorem dJ6_bitCount_0f7a4_48 : decode cJ6_bitCount_0f7a4 48 = .ok (.iload_n 0, 1) := by decide +kernel
theorem dJ6_bitCount_0f7a4_49 : decode cJ6_bitCount_0f7a4 49 = .ok (.bipush 63, 2) := by decide +kernel
theorem dJ6_bitCount_0f7a4_51 : decode cJ6_bitCount_0f7a4 51 = .ok (.iand, 1) := by decide +kernel
theorem dJ6_bitCount_0f7a4_52 : decode cJ6_bitCount_0f7a4 52 = .ok (.ireturn, 1) := by decide +kernel
theorem dJ9_abs_0f7a4_0 : decode cJ9_abs_0f7a4 0 = .ok (.iload_n 0, 1) := by decide +kernel
theorem dJ9_abs_0f7a4_1 : decode cJ9_abs_0f7a4 1 = .ok (.ifCond .ge 8, 3) := by decide +kernel
theorem dJ9_abs_0f7a4_4 : decode cJ9_abs_0f7a4 4 = .ok (.iload_n 0, 1) := by decide +kernel
theorem dJ9_abs_0f7a4_5 : decode cJ9_abs_0f7a4 5 = .ok (.ineg, 1) := by decide +kernel
theorem dJ9_abs_0f7a4_6 : decode cJ9_abs_0f7a4 6 = .ok (.goto 4, 3) := by decide +kernel
theorem dJ9_abs_0f7a4_9 : decode cJ9_abs_0f7a4 9 = .ok (.iload_n 0, 1) := by decide +kernel
theorem dJ9_abs_0f7a4_10 : decode cJ9_abs_0f7a4 10 = .ok (.ireturn, 1) := by decide +kernel
theorem dJ9_max_7cf53_0 : decode cJ9_max_7cf53 0 = .ok (.iload_n 0, 1) := by decide +kernel
theorem dJ9_max_7cf53_1 : decode cJ9_max_7cf53 1 = .ok (.iload_n 1, 1) := by decide +kernel
theorem dJ9_max_7cf53_2 : decode cJ9_max_7cf53 2 = .ok (.if_icmp .lt 7, 3) := by decide +kernel
theorem dJ9_max_7cf53_5 : decode cJ9_max_7cf53 5 = .ok (.iload_n 0, 1) := by decide +kernel
theorem dJ9_max_7cf53_6 : decode cJ9_max_7cf53 6 = .ok (.goto 4, 3) := by decide +kernel
theorem dJ9_max_7cf53_9 : decode cJ9_max_7cf53 9 = .ok (.iload_n 1, 1) := by decide +kernel
theorem dJ9_max_7cf53_10 : decode cJ9_max_7cf53 10 = .ok (.ireturn, 1) := by decide +kernel
theorem dJ9_min_7cf53_0 : decode cJ9_min_7cf53 0 = .ok (.iload_n 0, 1) := by decide +kernel
theorem dJ9_min_7cf53_1 : decode cJ9_min_7cf53 1 = .ok (.iload_n 1, 1) := by decide +kernel
theorem dJ9_min_7cf53_2 : decode cJ9_min_7cf53 2 = .ok (.if_icmp .gt 7, 3) := by decide +kernel
theorem dJ9_min_7cf53_5 : decode cJ9_min_7cf53 5 = .ok (.iload_n 0, 1) := by decide +kernel
theorem dJ9_min_7cf53_6 : decode cJ9_min_7cf53 6 = .ok (.goto 4, 3) := by decide +kernel
theorem dJ9_min_7cf53_9 : decode cJ9_min_7cf53 9 = .ok (.iload_n 1, 1) := by decide +kernel
theorem dJ9_min_7cf53_10 : decode cJ9_min_7cf53 10 = .ok (.ireturn, 1) := by decide +kernel
set_option maxRecDepth 20000 in
theorem ggJ0_length_8abf5_J0_coder_7d493 : GoodIn wsJ0_length_8abf5 wsJ0_coder_7d493 := goodIn_r _ [6, 7, 8] (by decide +kernel) (by decide +kernel)
set_option maxRecDepth 20000 in
theorem gJ0_length_8abf5_J0_coder_7d493 : GoodIn wsJ0_length_8abf5 (wsV RJ0 335 RJ0 yJ0_coder_7d493 wsJ0_coder_7d493) := goodIn_app (goodIn_of _ (by decide +kernel)) ggJ0_length_8abf5_J0_coder_7d493
theorem dJ0_length_8abf5_0 : decode cJ0_length_8abf5 0 = .ok (.aload_n 0, 1) := by decide +kernel
theorem dJ0_length_8abf5_1 : decode cJ0_length_8abf5 1 = .ok (.getfield 9, 3) := by decide +kernel
theorem dJ0_length_8abf5_4 : decode cJ0_length_8abf5 4 = .ok (.arraylength, 1) := by decide +kernel
theorem dJ0_length_8abf5_5 : decode cJ0_length_8abf5 5 = .ok (.aload_n 0, 1) := by decide +kernel
theorem dJ0_length_8abf5_6 : decode cJ0_length_8abf5 6 = .ok (.invokevirtual 335, 3) := by decide +kernel
theorem dJ0_length_8abf5_9 : decode cJ0_length_8abf5 9 = .ok (.ishr, 1) := by decide +kernel
theorem dJ0_length_8abf5_10 : decode cJ0_length_8abf5 10 = .ok (.ireturn, 1) := by decide +kernel
set_option maxRecDepth 20000 in
theorem ggJ0_charAt_5068e_J0_isLatin1_aae02 : GoodIn wsJ0_charAt_5068e wsJ0_isLatin1_aae02 := goodIn_r _ [6, 7, 8] (by decide +kernel) (by decide +kernel)
set_option maxRecDepth 20000 in
theorem gJ0_charAt_5068e_J0_isLatin1_aae02 : GoodIn wsJ0_charAt_5068e (wsV RJ0 492 RJ0 yJ0_isLatin1_aae02 wsJ0_isLatin1_aae02) := goodIn_app (goodIn_of _ (by decide +kernel)) ggJ0_charAt_5068e_J0_isLatin1_aae02
set_option maxRecDepth 20000 in
theorem ggJ0_charAt_5068e_J1_charAt_3b067 : GoodIn wsJ0_charAt_5068e wsJ1_charAt_3b067 := goodIn_r _ [12, 13, 14, 5, 15, 16, 17, 18, 19, 20] (by decide +kernel) (by decide +kernel)
set_option maxRecDepth 20000 in
theorem gJ0_charAt_5068e_J1_charAt_3b067 : GoodIn wsJ0_charAt_5068e (va_wsS RJ0 495 yJ1_charAt_3b067 wsJ1_charAt_3b067) := goodIn_app (goodIn_of _ (by decide +kernel)) ggJ0_charAt_5068e_J1_charAt_3b067
set_option maxRecDepth 20000 in
theorem ggJ0_charAt_5068e_J2_charAt_3b067 : GoodIn wsJ0_charAt_5068e wsJ2_charAt_3b067 := goodIn_r _ [24, 25, 26, 23, 27, 28, 29, 30, 31, 14, 5, 15, 16, 17, 18, 19, 20, 32, 33, 34, 35, 36, 37] (by decide +kernel) (by decide +kernel)
set_option maxRecDepth 20000 in
theorem gJ0_charAt_5068e_J2_charAt_3b067 : GoodIn wsJ0_charAt_5068e (va_wsS RJ0 498 yJ2_charAt_3b067 wsJ2_charAt_3b067) := goodIn_app (goodIn_of _ (by decide +kernel)) ggJ0_charAt_5068e_J2_charAt_3b067
theorem dJ0_charAt_5068e_0 : decode cJ0_charAt_5068e 0 = .ok (.aload_n 0, 1) := by decide +kernel
theorem dJ0_charAt_5068e_1 : decode cJ0_charAt_5068e 1 = .ok (.invokevirtual 492, 3) := by decide +kernel
theorem dJ0_charAt_5068e_4 : decode cJ0_charAt_5068e 4 = .ok (.ifCond .eq 12, 3) := by decide +kernel
theorem dJ0_charAt_5068e_7 : decode cJ0_charAt_5068e 7 = .ok (.aload_n 0, 1) := by decide +kernel
theorem dJ0_charAt_5068e_8 : decode cJ0_charAt_5068e 8 = .ok (.getfield 9, 3) := by decide +kernel
theorem dJ0_charAt_5068e_11 : decode cJ0_charAt_5068e 11 = .ok (.iload_n 1, 1) := by decide +kernel
theorem dJ0_charAt_5068e_12 : decode cJ0_charAt_5068e 12 = .ok (.invokestatic 495, 3) := by decide +kernel
theorem dJ0_charAt_5068e_15 : decode cJ0_charAt_5068e 15 = .ok (.ireturn, 1) := by decide +kernel
theorem dJ0_charAt_5068e_16 : decode cJ0_charAt_5068e 16 = .ok (.aload_n 0, 1) := by decide +kernel
theorem dJ0_charAt_5068e_17 : decode cJ0_charAt_5068e 17 = .ok (.getfield 9, 3) := by decide +kernel
theorem dJ0_charAt_5068e_20 : decode cJ0_charAt_5068e 20 = .ok (.iload_n 1, 1) := by decide +kernel
theorem dJ0_charAt_5068e_21 : decode cJ0_charAt_5068e 21 = .ok (.invokestatic 498, 3) := by decide +kernel
theorem dJ0_charAt_5068e_24 : decode cJ0_charAt_5068e 24 = .ok (.ireturn, 1) := by decide +kernel
theorem dJ0_coder_7d493_0 : decode cJ0_coder_7d493 0 = .ok (.getstatic 38, 3) := by decide +kernel
theorem dJ0_coder_7d493_3 : decode cJ0_coder_7d493 3 = .ok (.ifCond .eq 10, 3) := by decide +kernel
theorem dJ0_coder_7d493_6 : decode cJ0_coder_7d493 6 = .ok (.aload_n 0, 1) := by decide +kernel
theorem dJ0_coder_7d493_7 : decode cJ0_coder_7d493 7 = .ok (.getfield 15, 3) := by decide +kernel
theorem dJ0_coder_7d493_10 : decode cJ0_coder_7d493 10 = .ok (.goto 4, 3) := by decide +kernel
theorem dJ0_coder_7d493_13 : decode cJ0_coder_7d493 13 = .ok (.iconst 1, 1) := by decide +kernel
theorem dJ0_coder_7d493_14 : decode cJ0_coder_7d493 14 = .ok (.ireturn, 1) := by decide +kernel
theorem dJ0_isLatin1_aae02_0 : decode cJ0_isLatin1_aae02 0 = .ok (.getstatic 38, 3) := by decide +kernel
theorem dJ0_isLatin1_aae02_3 : decode cJ0_isLatin1_aae02 3 = .ok (.ifCond .eq 14, 3) := by decide +kernel
theorem dJ0_isLatin1_aae02_6 : decode cJ0_isLatin1_aae02 6 = .ok (.aload_n 0, 1) := by decide +kernel
theorem dJ0_isLatin1_aae02_7 : decode cJ0_isLatin1_aae02 7 = .ok (.getfield 15, 3) := by decide +kernel
theorem dJ0_isLatin1_aae02_10 : decode cJ0_isLatin1_aae02 10 = .ok (.ifCond .ne 7, 3) := by decide +kernel
theorem dJ0_isLatin1_aae02_13 : decode cJ0_isLatin1_aae02 13 = .ok (.iconst 1, 1) := by decide +kernel
theorem dJ0_isLatin1_aae02_14 : decode cJ0_isLatin1_aae02 14 = .ok (.goto 4, 3) := by decide +kernel
theorem dJ0_isLatin1_aae02_17 : decode cJ0_isLatin1_aae02 17 = .ok (.iconst 0, 1) := by decide +kernel
theorem dJ0_isLatin1_aae02_18 : decode cJ0_isLatin1_aae02 18 = .ok (.ireturn, 1) := by decide +kernel
set_option maxRecDepth 20000 in
theorem ggJ0_checkIndex_df160_J3_checkIndex_8e157 : GoodIn wsJ0_checkIndex_df160 wsJ3_checkIndex_8e157 := goodIn_r _ [5] (by decide +kernel) (by decide +kernel)
set_option maxRecDepth 20000 in
theorem gJ0_checkIndex_df160_J3_checkIndex_8e157 : GoodIn wsJ0_checkIndex_df160 (va_wsS RJ0 1059 yJ3_checkIndex_8e157 wsJ3_checkIndex_8e157) := goodIn_app (goodIn_of _ (by decide +kernel)) ggJ0_checkIndex_df160_J3_checkIndex_8e157
theorem dJ0_checkIndex_df160_0 : decode cJ0_checkIndex_df160 0 = .ok (.iload_n 0, 1) := by decide +kernel
theorem dJ0_checkIndex_df160_1 : decode cJ0_checkIndex_df160 1 = .ok (.iload_n 1, 1) := by decide +kernel
theorem dJ0_checkIndex_df160_2 : decode cJ0_checkIndex_df160 2 = .ok (.getstatic 1053, 3) := by decide +kernel
theorem dJ0_checkIndex_df160_5 : decode cJ0_checkIndex_df160 5 = .ok (.invokestatic 1059, 3) := by decide +kernel
theorem dJ0_checkIndex_df160_8 : decode cJ0_checkIndex_df160 8 = .ok (.pop, 1) := by decide +kernel
theorem dJ0_checkIndex_df160_9 : decode cJ0_checkIndex_df160 9 = .ok (.return_, 1) := by decide +kernel
set_option maxRecDepth 20000 in
theorem ggJ1_charAt_3b067_J0_checkIndex_df160 : GoodIn wsJ1_charAt_3b067 wsJ0_checkIndex_df160 := goodIn_r _ [4, 5, 6, 7, 8, 9] (by decide +kernel) (by decide +kernel)
set_option maxRecDepth 20000 in
theorem gJ1_charAt_3b067_J0_checkIndex_df160 : GoodIn wsJ1_charAt_3b067 (va_wsS RJ1 9 yJ0_checkIndex_df160 wsJ0_checkIndex_df160) := goodIn_app (goodIn_of _ (by decide +kernel)) ggJ1_charAt_3b067_J0_checkIndex_df160
theorem dJ1_charAt_3b067_0 : decode cJ1_charAt_3b067 0 = .ok (.iload_n 1, 1) := by decide +kernel
theorem dJ1_charAt_3b067_1 : decode cJ1_charAt_3b067 1 = .ok (.aload_n 0, 1) := by decide +kernel
theorem dJ1_charAt_3b067_2 : decode cJ1_charAt_3b067 2 = .ok (.arraylength, 1) := by decide +kernel
theorem dJ1_charAt_3b067_3 : decode cJ1_charAt_3b067 3 = .ok (.invokestatic 9, 3) := by decide +kernel
theorem dJ1_charAt_3b067_6 : decode cJ1_charAt_3b067 6 = .ok (.aload_n 0, 1) := by decide +kernel
theorem dJ1_charAt_3b067_7 : decode cJ1_charAt_3b067 7 = .ok (.iload_n 1, 1) := by decide +kernel
theorem dJ1_charAt_3b067_8 : decode cJ1_charAt_3b067 8 = .ok (.baload, 1) := by decide +kernel
theorem dJ1_charAt_3b067_9 : decode cJ1_charAt_3b067 9 = .ok (.sipush 255, 3) := by decide +kernel
theorem dJ1_charAt_3b067_12 : decode cJ1_charAt_3b067 12 = .ok (.iand, 1) := by decide +kernel
theorem dJ1_charAt_3b067_13 : decode cJ1_charAt_3b067 13 = .ok (.i2c, 1) := by decide +kernel
theorem dJ1_charAt_3b067_14 : decode cJ1_charAt_3b067 14 = .ok (.ireturn, 1) := by decide +kernel
set_option maxRecDepth 20000 in
theorem ggJ2_getChar_3b067_J2_length_9d52b : GoodIn wsJ2_getChar_3b067 wsJ2_length_9d52b := goodIn_r _ [7] (by decide +kernel) (by decide +kernel)
set_option maxRecDepth 20000 in
theorem gJ2_getChar_3b067_J2_length_9d52b : GoodIn wsJ2_getChar_3b067 (va_wsS RJ2 48 yJ2_length_9d52b wsJ2_length_9d52b) := goodIn_app (goodIn_of _ (by decide +kernel)) ggJ2_getChar_3b067_J2_length_9d52b
theorem dJ2_getChar_3b067_0 : decode cJ2_getChar_3b067 0 = .ok (.getstatic 44, 3) := by decide +kernel
theorem dJ2_getChar_3b067_3 : decode cJ2_getChar_3b067 3 = .ok (.ifCond .ne 25, 3) := by decide +kernel
theorem dJ2_getChar_3b067_6 : decode cJ2_getChar_3b067 6 = .ok (.iload_n 1, 1) := by decide +kernel
theorem dJ2_getChar_3b067_7 : decode cJ2_getChar_3b067 7 = .ok (.ifCond .lt 11, 3) := by decide +kernel
theorem dJ2_getChar_3b067_10 : decode cJ2_getChar_3b067 10 = .ok (.iload_n 1, 1) := by decide +kernel
theorem dJ2_getChar_3b067_11 : decode cJ2_getChar_3b067 11 = .ok (.aload_n 0, 1) := by decide +kernel
theorem dJ2_getChar_3b067_12 : decode cJ2_getChar_3b067 12 = .ok (.invokestatic 48, 3) := by decide +kernel
theorem dJ2_getChar_3b067_15 : decode cJ2_getChar_3b067 15 = .ok (.if_icmp .lt 13, 3) := by decide +kernel
theorem dJ2_getChar_3b067_18 : decode cJ2_getChar_3b067 18 = .ok (.new 52, 3) := by decide +kernel
theorem dJ2_getChar_3b067_21 : decode cJ2_getChar_3b067 21 = .ok (.dup, 1) := by decide +kernel
theorem dJ2_getChar_3b067_22 : decode cJ2_getChar_3b067 22 = .ok (.ldc 54, 2) := by decide +kernel
theorem dJ2_getChar_3b067_24 : decode cJ2_getChar_3b067 24 = .ok (.invokespecial 56, 3) := by decide +kernel
theorem dJ2_getChar_3b067_27 : decode cJ2_getChar_3b067 27 = .ok (.athrow, 1) := by decide +kernel
theorem dJ2_getChar_3b067_28 : decode cJ2_getChar_3b067 28 = .ok (.iload_n 1, 1) := by decide +kernel
theorem dJ2_getChar_3b067_29 : decode cJ2_getChar_3b067 29 = .ok (.iconst 1, 1) := by decide +kernel
theorem dJ2_getChar_3b067_30 : decode cJ2_getChar_3b067 30 = .ok (.ishl, 1) := by decide +kernel
theorem dJ2_getChar_3b067_31 : decode cJ2_getChar_3b067 31 = .ok (.istore_n 1, 1) := by decide +kernel
theorem dJ2_getChar_3b067_32 : decode cJ2_getChar_3b067 32 = .ok (.aload_n 0, 1) := by decide +kernel
theorem dJ2_getChar_3b067_33 : decode cJ2_getChar_3b067 33 = .ok (.iload_n 1, 1) := by decide +kernel
theorem dJ2_getChar_3b067_34 : decode cJ2_getChar_3b067 34 = .ok (.iinc 1 1, 3) := by decide +kernel
theorem dJ2_getChar_3b067_37 : decode cJ2_getChar_3b067 37 = .ok (.baload, 1) := by decide +kernel
theorem dJ2_getChar_3b067_38 : decode cJ2_getChar_3b067 38 = .ok (.sipush 255, 3) := by decide +kernel
theorem dJ2_getChar_3b067_41 : decode cJ2_getChar_3b067 41 = .ok (.iand, 1) := by decide +kernel
theorem dJ2_getChar_3b067_42 : decode cJ2_getChar_3b067 42 = .ok (.getstatic 59, 3) := by decide +kernel
theorem dJ2_getChar_3b067_45 : decode cJ2_getChar_3b067 45 = .ok (.ishl, 1) := by decide +kernel
theorem dJ2_getChar_3b067_46 : decode cJ2_getChar_3b067 46 = .ok (.aload_n 0, 1) := by decide +kernel
theorem dJ2_getChar_3b067_47 : decode cJ2_getChar_3b067 47 = .ok (.iload_n 1, 1) := by decide +kernel
theorem dJ2_getChar_3b067_48 : decode cJ2_getChar_3b067 48 = .ok (.baload, 1) := by decide +kernel
theorem dJ2_getChar_3b067_49 : decode cJ2_getChar_3b067 49 = .ok (.sipush 255, 3) := by decide +kernel
theorem dJ2_getChar_3b067_52 : decode cJ2_getChar_3b067 52 = .ok (.iand, 1) := by decide +kernel
theorem dJ2_getChar_3b067_53 : decode cJ2_getChar_3b067 53 = .ok (.getstatic 63, 3) := by decide +kernel
theorem dJ2_getChar_3b067_56 : decode cJ2_getChar_3b067 56 = .ok (.ishl, 1) := by decide +kernel
theorem dJ2_getChar_3b067_57 : decode cJ2_getChar_3b067 57 = .ok (.ior, 1) := by decide +kernel
theorem dJ2_getChar_3b067_58 : decode cJ2_getChar_3b067 58 = .ok (.i2c, 1) := by decide +kernel
theorem dJ2_getChar_3b067_59 : decode cJ2_getChar_3b067 59 = .ok (.ireturn, 1) := by decide +kernel
theorem dJ2_length_9d52b_0 : decode cJ2_length_9d52b 0 = .ok (.aload_n 0, 1) := by decide +kernel
theorem dJ2_length_9d52b_1 : decode cJ2_length_9d52b 1 = .ok (.arraylength, 1) := by decide +kernel
theorem dJ2_length_9d52b_2 : decode cJ2_length_9d52b 2 = .ok (.iconst 1, 1) := by decide +kernel
theorem dJ2_length_9d52b_3 : decode cJ2_length_9d52b 3 = .ok (.ishr, 1) := by decide +kernel
theorem dJ2_length_9d52b_4 : decode cJ2_length_9d52b 4 = .ok (.ireturn, 1) := by decide +kernel
set_option maxRecDepth 20000 in
theorem ggJ2_charAt_3b067_J2_checkIndex_2214a : GoodIn wsJ2_charAt_3b067 wsJ2_checkIndex_2214a := goodIn_r _ [4, 5, 6, 3, 7, 8, 9, 10, 11, 12, 13, 14, 15, 16] (by decide +kernel) (by decide +kernel)
set_option maxRecDepth 20000 in
theorem gJ2_charAt_3b067_J2_checkIndex_2214a : GoodIn wsJ2_charAt_3b067 (va_wsS RJ2 67 yJ2_checkIndex_2214a wsJ2_checkIndex_2214a) := goodIn_app (goodIn_of _ (by decide +kernel)) ggJ2_charAt_3b067_J2_checkIndex_2214a
set_option maxRecDepth 20000 in
theorem ggJ2_charAt_3b067_J2_getChar_3b067 : GoodIn wsJ2_charAt_3b067 wsJ2_getChar_3b067 := goodIn_r _ [19, 20, 21, 22, 5, 6, 3, 7] (by decide +kernel) (by decide +kernel)
set_option maxRecDepth 20000 in
theorem gJ2_charAt_3b067_J2_getChar_3b067 : GoodIn wsJ2_charAt_3b067 (va_wsS RJ2 71 yJ2_getChar_3b067 wsJ2_getChar_3b067) := goodIn_app (goodIn_of _ (by decide +kernel)) ggJ2_charAt_3b067_J2_getChar_3b067
theorem dJ2_charAt_3b067_0 : decode cJ2_charAt_3b067 0 = .ok (.iload_n 1, 1) := by decide +kernel
theorem dJ2_charAt_3b067_1 : decode cJ2_charAt_3b067 1 = .ok (.aload_n 0, 1) := by decide +kernel
theorem dJ2_charAt_3b067_2 : decode cJ2_charAt_3b067 2 = .ok (.invokestatic 67, 3) := by decide +kernel
theorem dJ2_charAt_3b067_5 : decode cJ2_charAt_3b067 5 = .ok (.aload_n 0, 1) := by decide +kernel
theorem dJ2_charAt_3b067_6 : decode cJ2_charAt_3b067 6 = .ok (.iload_n 1, 1) := by decide +kernel
theorem dJ2_charAt_3b067_7 : decode cJ2_charAt_3b067 7 = .ok (.invokestatic 71, 3) := by decide +kernel
theorem dJ2_charAt_3b067_10 : decode cJ2_charAt_3b067 10 = .ok (.ireturn, 1) := by decide +kernel
set_option maxRecDepth 20000 in
theorem ggJ2_checkIndex_2214a_J2_length_9d52b : GoodIn wsJ2_checkIndex_2214a wsJ2_length_9d52b := goodIn_r _ [4] (by decide +kernel) (by decide +kernel)
set_option maxRecDepth 20000 in
theorem gJ2_checkIndex_2214a_J2_length_9d52b : GoodIn wsJ2_checkIndex_2214a (va_wsS RJ2 48 yJ2_length_9d52b wsJ2_length_9d52b) := goodIn_app (goodIn_of _ (by decide +kernel)) ggJ2_checkIndex_2214a_J2_length_9d52b
set_option maxRecDepth 20000 in
theorem ggJ2_checkIndex_2214a_J0_checkIndex_df160 : GoodIn wsJ2_checkIndex_2214a wsJ0_checkIndex_df160 := goodIn_r _ [8, 9, 10, 11, 12, 13] (by decide +kernel) (by decide +kernel)
set_option maxRecDepth 20000 in
theorem gJ2_checkIndex_2214a_J0_checkIndex_df160 : GoodIn wsJ2_checkIndex_2214a (va_wsS RJ2 414 yJ0_checkIndex_df160 wsJ0_checkIndex_df160) := goodIn_app (goodIn_of _ (by decide +kernel)) ggJ2_checkIndex_2214a_J0_checkIndex_df160
theorem dJ2_checkIndex_2214a_0 : decode cJ2_checkIndex_2214a 0 = .ok (.iload_n 0, 1) := by decide +kernel
theorem dJ2_checkIndex_2214a_1 : decode cJ2_checkIndex_2214a 1 = .ok (.aload_n 1, 1) := by decide +kernel
theorem dJ2_checkIndex_2214a_2 : decode cJ2_checkIndex_2214a 2 = .ok (.invokestatic 48, 3) := by decide +kernel
theorem dJ2_checkIndex_2214a_5 : decode cJ2_checkIndex_2214a 5 = .ok (.invokestatic 414, 3) := by decide +kernel
theorem dJ2_checkIndex_2214a_8 : decode cJ2_checkIndex_2214a 8 = .ok (.return_, 1) := by decide +kernel
theorem dJ3_checkIndex_8e157_0 : decode cJ3_checkIndex_8e157 0 = .ok (.iload_n 0, 1) := by decide +kernel
theorem dJ3_checkIndex_8e157_1 : decode cJ3_checkIndex_8e157 1 = .ok (.ifCond .lt 8, 3) := by decide +kernel
theorem dJ3_checkIndex_8e157_4 : decode cJ3_checkIndex_8e157 4 = .ok (.iload_n 0, 1) := by decide +kernel
theorem dJ3_checkIndex_8e157_5 : decode cJ3_checkIndex_8e157 5 = .ok (.iload_n 1, 1) := by decide +kernel
theorem dJ3_checkIndex_8e157_6 : decode cJ3_checkIndex_8e157 6 = .ok (.if_icmp .lt 10, 3) := by decide +kernel
theorem dJ3_checkIndex_8e157_9 : decode cJ3_checkIndex_8e157 9 = .ok (.aload_n 2, 1) := by decide +kernel
theorem dJ3_checkIndex_8e157_10 : decode cJ3_checkIndex_8e157 10 = .ok (.iload_n 0, 1) := by decide +kernel
theorem dJ3_checkIndex_8e157_11 : decode cJ3_checkIndex_8e157 11 = .ok (.iload_n 1, 1) := by decide +kernel
theorem dJ3_checkIndex_8e157_12 : decode cJ3_checkIndex_8e157 12 = .ok (.invokestatic 95, 3) := by decide +kernel
theorem dJ3_checkIndex_8e157_15 : decode cJ3_checkIndex_8e157 15 = .ok (.athrow, 1) := by decide +kernel
theorem dJ3_checkIndex_8e157_16 : decode cJ3_checkIndex_8e157 16 = .ok (.iload_n 0, 1) := by decide +kernel
theorem dJ3_checkIndex_8e157_17 : decode cJ3_checkIndex_8e157 17 = .ok (.ireturn, 1) := by decide +kernel
set_option maxRecDepth 20000 in
theorem ggL_law_X7_init : GoodIn wsL_law wsX7_init := goodIn_r _ [8, 9, 10, 11, 12, 13, 14, 15, 16, 17, 18, 19, 20, 21, 22, 23, 24, 25, 26, 27, 28, 29, 30, 31, 32, 33, 34, 35, 36, 37, 38, 39, 40, 41, 42, 43, 44, 45, 46, 47, 48, 49, 50, 51, 52, 53, 54, 55, 56, 57, 58, 59, 60, 61, 62, 63, 64, 65, 66, 67, 68, 69, 70, 71, 72, 73, 74, 75, 76, 77, 78, 79, 80, 81, 82, 83, 84, 966, 967, 968, 969, 970, 971, 972, 973, 974, 950, 951, 952, 953, 975, 976, 977, 978, 979, 980, 981, 982, 983, 984, 985, 986, 987, 988, 989, 990, 991, 992, 993, 994, 995, 996, 997, 998, 999, 1000, 1001, 1002, 1003, 1004, 1005] (by decide +kernel) (by decide +kernel)
set_option maxRecDepth 20000 in
theorem gL_law_X7_init : GoodIn wsL_law (wsX7_init) := ggL_law_X7_init
set_option maxRecDepth 20000 in
theorem ggL_law_X8_init : GoodIn wsL_law wsX8_init := goodIn_r _ [87, 88, 10, 11, 43, 89, 90, 91, 92, 93, 954, 955, 956, 957, 958, 959, 960, 961, 962, 963, 964, 965] (by decide +kernel) (by decide +kernel)
set_option maxRecDepth 20000 in
theorem gL_law_X8_init : GoodIn wsL_law (wsX8_init) := ggL_law_X8_init
set_option maxRecDepth 20000 in
theorem ggL_law_X7_addCostume : GoodIn wsL_law wsX7_addCostume := goodIn_r _ [97, 15, 98, 99, 19, 100, 101, 2, 102, 103, 104, 105, 106, 107, 108, 18, 109, 110, 111, 112, 113, 114, 115, 116, 117, 118, 119, 74, 120, 121, 122, 14, 123, 34, 38, 42, 44, 124, 125, 126, 127, 128, 129, 130, 131, 33, 132, 133, 48, 49, 50, 51, 52, 53, 54, 55, 134, 135, 136, 137, 138, 139, 140, 141, 142, 143, 37, 144, 145, 59, 60, 146, 147, 148, 41, 149, 150, 64, 65, 66, 67, 68, 151, 152, 153, 154, 155, 156, 950, 951, 952, 953, 966, 967, 968, 969, 970, 971, 972, 973, 974, 988, 989, 990, 991, 992, 993, 994, 995, 996, 975, 976, 977, 997, 998, 999, 1000, 1001, 1002, 1003, 1004, 1005] (by decide +kernel) (by decide +kernel)
set_option maxRecDepth 20000 in
theorem gL_law_X7_addCostume : GoodIn wsL_law (wsV RL 13 RX7 yX7_addCostume wsX7_addCostume) := goodIn_app (goodIn_of _ (by decide +kernel)) ggL_law_X7_addCostume
set_option maxRecDepth 20000 in
theorem ggL_law_X8_addCostume : GoodIn wsL_law wsX8_addCostume := goodIn_r _ [160, 93, 161, 162, 89, 163, 164, 5, 165, 166, 167, 168, 169, 170, 171, 172, 173, 174, 175, 91, 176, 177, 178, 179, 180, 181, 182, 183, 954, 955, 956, 957, 958, 959, 960, 961, 962, 963, 964, 965] (by decide +kernel) (by decide +kernel)
set_option maxRecDepth 20000 in
theorem gL_law_X8_addCostume : GoodIn wsL_law (wsV RL 17 RX8 yX8_addCostume wsX8_addCostume) := goodIn_app (goodIn_of _ (by decide +kernel)) ggL_law_X8_addCostume
set_option maxRecDepth 20000 in
theorem ggL_law_X7_setColor : GoodIn wsL_law wsX7_setColor := goodIn_r _ [187, 15, 98, 19, 188, 189, 190, 191, 33, 192, 133, 103, 104, 2, 105, 106, 107, 108, 18, 109, 110, 111, 112, 113, 114, 115, 116, 117, 118, 119, 74, 120, 121, 122, 14, 123, 34, 38, 42, 44, 124, 125, 126, 127, 128, 129, 130, 131, 132, 48, 49, 50, 51, 52, 53, 54, 55, 134, 135, 136, 137, 138, 139, 140, 141, 142, 143, 37, 144, 145, 59, 60, 146, 147, 148, 41, 149, 150, 64, 65, 66, 67, 68, 193, 194, 195, 196, 155, 156, 950, 951, 952, 953, 966, 967, 968, 969, 970, 971, 972, 973, 974, 988, 989, 990, 991, 992, 993, 994, 995, 996, 975, 976, 977, 997, 998, 999, 1000, 1001, 1002, 1003, 1004, 1005] (by decide +kernel) (by decide +kernel)
set_option maxRecDepth 20000 in
theorem gL_law_X7_setColor : GoodIn wsL_law (wsV RL 18 RX7 yX7_setColor wsX7_setColor) := goodIn_app (goodIn_of _ (by decide +kernel)) ggL_law_X7_setColor
set_option maxRecDepth 20000 in
theorem ggL_law_X8_setColor : GoodIn wsL_law wsX8_setColor := goodIn_r _ [200, 93, 201, 202, 203, 5, 204, 89, 168, 169, 170, 205, 206, 207, 208, 171, 172, 173, 174, 175, 91, 954, 955, 956, 957, 958, 959, 960, 961, 962, 963, 964, 965] (by decide +kernel) (by decide +kernel)
set_option maxRecDepth 20000 in
theorem gL_law_X8_setColor : GoodIn wsL_law (wsV RL 22 RX8 yX8_setColor wsX8_setColor) := goodIn_app (goodIn_of _ (by decide +kernel)) ggL_law_X8_setColor
set_option maxRecDepth 20000 in
theorem ggL_law_X7_addActor : GoodIn wsL_law wsX7_addActor := goodIn_r _ [212, 15, 213, 214, 19, 100, 101, 2, 102, 103, 104, 105, 106, 107, 108, 18, 109, 110, 111, 112, 113, 114, 115, 116, 117, 118, 119, 74, 120, 121, 122, 14, 123, 34, 38, 42, 44, 124, 125, 126, 127, 128, 129, 130, 131, 33, 132, 133, 48, 49, 50, 51, 52, 53, 54, 55, 134, 135, 136, 137, 138, 139, 140, 141, 142, 143, 37, 144, 145, 59, 60, 146, 147, 148, 41, 149, 150, 64, 65, 66, 67, 68, 215, 216, 217, 218, 155, 156, 950, 951, 952, 953, 966, 967, 968, 969, 970, 971, 972, 973, 974, 997, 998, 999, 975, 976, 977, 988, 989, 990, 991, 992, 993, 994, 995, 996, 1000, 1001, 1002, 1003, 1004, 1005] (by decide +kernel) (by decide +kernel)
set_option maxRecDepth 20000 in
theorem gL_law_X7_addActor : GoodIn wsL_law (wsV RL 23 RX7 yX7_addActor wsX7_addActor) := goodIn_app (goodIn_of _ (by decide +kernel)) ggL_law_X7_addActor
set_option maxRecDepth 20000 in
theorem ggL_law_X8_addActor : GoodIn wsL_law wsX8_addActor := goodIn_r _ [222, 93, 89, 163, 164, 5, 165, 166, 167, 168, 169, 170, 171, 172, 173, 174, 175, 91, 223, 224, 225, 226, 954, 955, 956, 957, 958, 959, 960, 961, 962, 963, 964, 965] (by decide +kernel) (by decide +kernel)
set_option maxRecDepth 20000 in
theorem gL_law_X8_addActor : GoodIn wsL_law (wsV RL 27 RX8 yX8_addActor wsX8_addActor) := goodIn_app (goodIn_of _ (by decide +kernel)) ggL_law_X8_addActor
set_option maxRecDepth 20000 in
theorem ggL_law_X7_set : GoodIn wsL_law wsX7_set := goodIn_r _ [230, 19, 15, 231, 103, 104, 2, 105, 232, 233, 234, 106, 107, 108, 18, 109, 110, 111, 112, 113, 114, 115, 116, 117, 118, 119, 74, 120, 121, 122, 14, 123, 34, 38, 42, 44, 124, 125, 126, 127, 128, 129, 130, 131, 33, 132, 133, 48, 49, 50, 51, 52, 53, 54, 55, 134, 135, 136, 137, 138, 139, 140, 141, 142, 143, 37, 144, 145, 59, 60, 146, 147, 148, 41, 149, 150, 64, 65, 66, 67, 68, 193, 194, 195, 196, 155, 156, 950, 951, 952, 953, 966, 967, 968, 969, 970, 971, 972, 973, 974, 975, 976, 977, 988, 989, 990, 991, 992, 993, 994, 995, 996, 997, 998, 999, 1000, 1001, 1002, 1003, 1004, 1005] (by decide +kernel) (by decide +kernel)
set_option maxRecDepth 20000 in
theorem gL_law_X7_set : GoodIn wsL_law (wsV RL 28 RX7 yX7_set wsX7_set) := goodIn_app (goodIn_of _ (by decide +kernel)) ggL_law_X7_set
set_option maxRecDepth 20000 in
theorem ggL_law_X8_set : GoodIn wsL_law wsX8_set := goodIn_r _ [238, 93, 239, 240, 241, 168, 169, 5, 170, 205, 206, 207, 208, 89, 171, 172, 173, 174, 175, 91, 954, 955, 956, 957, 958, 959, 960, 961, 962, 963, 964, 965] (by decide +kernel) (by decide +kernel)
set_option maxRecDepth 20000 in
theorem gL_law_X8_set : GoodIn wsL_law (wsV RL 31 RX8 yX8_set wsX8_set) := goodIn_app (goodIn_of _ (by decide +kernel)) ggL_law_X8_set
set_option maxRecDepth 20000 in
theorem ggL_law_X7_alter : GoodIn wsL_law wsX7_alter := goodIn_r _ [245, 15, 98, 19, 246, 247, 114, 248, 249, 189, 190, 191, 33, 192, 133, 103, 104, 2, 105, 250, 251, 252, 14, 253, 42, 124, 254, 255, 256, 41, 257, 150, 64, 65, 194, 195, 258, 259, 260, 261, 66, 262, 263, 264, 265, 49, 266, 267, 268, 269, 48, 270, 271, 272, 273, 53, 54, 55, 274, 275, 276, 277, 278, 279, 280, 281, 106, 107, 108, 18, 109, 110, 111, 112, 113, 115, 116, 117, 118, 119, 74, 120, 121, 122, 123, 34, 38, 44, 125, 126, 127, 128, 129, 130, 131, 132, 50, 51, 52, 134, 135, 136, 137, 138, 139, 140, 141, 142, 143, 37, 144, 145, 59, 60, 146, 147, 148, 149, 67, 68, 282, 283, 284, 285, 155, 156, 950, 951, 952, 953, 966, 967, 968, 969, 970, 971, 972, 973, 974, 988, 989, 990, 991, 992, 993, 994, 995, 996, 1000, 1001, 1002, 1003, 1004, 1005, 975, 976, 977, 997, 998, 999] (by decide +kernel) (by decide +kernel)
set_option maxRecDepth 20000 in
theorem gL_law_X7_alter : GoodIn wsL_law (wsV RL 32 RX7 yX7_alter wsX7_alter) := goodIn_app (goodIn_of _ (by decide +kernel)) ggL_law_X7_alter
set_option maxRecDepth 20000 in
theorem ggL_law_X8_alter : GoodIn wsL_law wsX8_alter := goodIn_r _ [289, 93, 240, 290, 291, 89, 201, 202, 203, 5, 204, 168, 169, 170, 292, 293, 294, 295, 296, 297, 298, 299, 300, 301, 302, 303, 304, 305, 306, 307, 308, 309, 310, 311, 312, 313, 314, 315, 171, 172, 173, 174, 175, 91, 180, 181, 182, 183, 316, 317, 318, 954, 955, 956, 957, 958, 959, 960, 961, 962, 963, 964, 965] (by decide +kernel) (by decide +kernel)
set_option maxRecDepth 20000 in
theorem gL_law_X8_alter : GoodIn wsL_law (wsV RL 35 RX8 yX8_alter wsX8_alter) := goodIn_app (goodIn_of _ (by decide +kernel)) ggL_law_X8_alter
set_option maxRecDepth 20000 in
theorem ggL_law_X7_unpick : GoodIn wsL_law wsX7_unpick := goodIn_r _ [322, 15, 98, 323, 19, 246, 247, 114, 248, 249, 189, 190, 191, 33, 192, 133, 250, 251, 252, 14, 253, 42, 124, 254, 255, 256, 41, 257, 150, 64, 65, 194, 2, 195, 258, 259, 260, 261, 66, 193, 106, 107, 108, 18, 109, 110, 111, 112, 113, 115, 116, 117, 118, 119, 74, 120, 121, 122, 123, 34, 38, 44, 125, 126, 127, 128, 129, 130, 131, 132, 48, 49, 50, 51, 52, 53, 54, 55, 134, 135, 136, 137, 138, 139, 140, 141, 142, 143, 37, 144, 145, 59, 60, 146, 147, 148, 149, 67, 68, 324, 325, 326, 327, 155, 156, 274, 275, 276, 277, 950, 951, 952, 953, 966, 967, 968, 969, 970, 971, 972, 973, 974, 988, 989, 990, 991, 992, 993, 994, 995, 996, 1000, 1001, 1002, 1003, 1004, 1005, 975, 976, 977, 997, 998, 999] (by decide +kernel) (by decide +kernel)
set_option maxRecDepth 20000 in
theorem gL_law_X7_unpick : GoodIn wsL_law (wsV RL 36 RX7 yX7_unpick wsX7_unpick) := goodIn_app (goodIn_of _ (by decide +kernel)) ggL_law_X7_unpick
set_option maxRecDepth 20000 in
theorem ggL_law_X8_unpick : GoodIn wsL_law wsX8_unpick := goodIn_r _ [331, 93, 89, 201, 202, 203, 5, 204, 168, 169, 170, 312, 313, 314, 315, 292, 293, 294, 295, 296, 297, 298, 299, 300, 301, 302, 303, 171, 172, 173, 174, 175, 91, 180, 181, 182, 183, 316, 317, 318, 954, 955, 956, 957, 958, 959, 960, 961, 962, 963, 964, 965] (by decide +kernel) (by decide +kernel)
set_option maxRecDepth 20000 in
theorem gL_law_X8_unpick : GoodIn wsL_law (wsV RL 40 RX8 yX8_unpick wsX8_unpick) := goodIn_app (goodIn_of _ (by decide +kernel)) ggL_law_X8_unpick
set_option maxRecDepth 20000 in
theorem ggL_law_X7_append : GoodIn wsL_law wsX7_append := goodIn_r _ [335, 23, 336, 103, 104, 2, 105, 337, 338, 339, 22, 340, 78, 341, 155, 156, 950, 951, 952, 953, 978, 979] (by decide +kernel) (by decide +kernel)
set_option maxRecDepth 20000 in
theorem gL_law_X7_append : GoodIn wsL_law (wsV RL 41 RX7 yX7_append wsX7_append) := goodIn_app (goodIn_of _ (by decide +kernel)) ggL_law_X7_append
set_option maxRecDepth 20000 in
theorem ggL_law_X8_append : GoodIn wsL_law wsX8_append := goodIn_r _ [345, 93, 346, 347, 92, 168, 169, 5, 170, 954, 955, 956, 957, 958, 959, 960, 961, 962, 963, 964, 965] (by decide +kernel) (by decide +kernel)
set_option maxRecDepth 20000 in
theorem gL_law_X8_append : GoodIn wsL_law (wsV RL 44 RX8 yX8_append wsX8_append) := goodIn_app (goodIn_of _ (by decide +kernel)) ggL_law_X8_append
set_option maxRecDepth 20000 in
theorem ggL_law_X7_clearText : GoodIn wsL_law wsX7_clearText := goodIn_r _ [351, 23, 352, 353, 354, 22, 355, 341, 950, 951, 952, 953, 978, 979] (by decide +kernel) (by decide +kernel)
set_option maxRecDepth 20000 in
theorem gL_law_X7_clearText : GoodIn wsL_law (wsV RL 45 RX7 yX7_clearText wsX7_clearText) := goodIn_app (goodIn_of _ (by decide +kernel)) ggL_law_X7_clearText
set_option maxRecDepth 20000 in
theorem ggL_law_X8_clearText : GoodIn wsL_law wsX8_clearText := goodIn_r _ [359, 93, 347, 954, 955, 956, 957, 958, 959, 960, 961, 962, 963, 964, 965] (by decide +kernel) (by decide +kernel)
set_option maxRecDepth 20000 in
theorem gL_law_X8_clearText : GoodIn wsL_law (wsV RL 49 RX8 yX8_clearText wsX8_clearText) := goodIn_app (goodIn_of _ (by decide +kernel)) ggL_law_X8_clearText
set_option maxRecDepth 20000 in
theorem ggL_law_X7_load : GoodIn wsL_law wsX7_load := goodIn_r _ [363, 27, 15, 98, 99, 213, 214, 364, 19, 365, 23, 366, 367, 368, 26, 369, 370, 371, 372, 373, 374, 375, 376, 377, 378, 379, 83, 380, 381, 194, 2, 195, 382, 383, 384, 385, 104, 105, 386, 387, 388, 389, 390, 391, 392, 393, 394, 395, 396, 397, 398, 399, 400, 401, 402, 403, 404, 405, 406, 407, 408, 409, 410, 411, 412, 413, 414, 415, 416, 417, 418, 419, 420, 421, 422, 423, 424, 425, 426, 427, 428, 429, 430, 431, 432, 433, 434, 435, 436, 437, 438, 439, 440, 441, 442, 443, 444, 445, 446, 447, 448, 449, 450, 84, 155, 156, 451, 452, 453, 454, 455, 113, 114, 115, 456, 457, 458, 106, 107, 108, 18, 109, 110, 111, 112, 116, 117, 118, 119, 74, 120, 121, 122, 14, 123, 34, 38, 42, 44, 124, 125, 126, 127, 128, 129, 130, 131, 33, 132, 133, 48, 49, 50, 51, 52, 53, 54, 55, 134, 135, 136, 137, 138, 139, 140, 141, 142, 143, 37, 144, 145, 59, 60, 146, 147, 148, 41, 149, 150, 64, 65, 66, 67, 68, 459, 460, 461, 462, 463, 464, 465, 466, 215, 216, 217, 218, 151, 152, 153, 154, 352, 353, 354, 22, 355, 341, 950, 951, 952, 953, 966, 967, 968, 969, 970, 971, 972, 973, 974, 988, 989, 990, 991, 992, 993, 994, 995, 996, 997, 998, 999, 980, 981, 982, 983, 984, 985, 986, 987, 978, 979, 975, 976, 977, 1000, 1001, 1002, 1003, 1004, 1005] (by decide +kernel) (by decide +kernel)
set_option maxRecDepth 20000 in
theorem gL_law_X7_load : GoodIn wsL_law (wsV RL 50 RX7 yX7_load wsX7_load) := goodIn_app (goodIn_of _ (by decide +kernel)) ggL_law_X7_load
set_option maxRecDepth 20000 in
theorem ggL_law_X8_load : GoodIn wsL_law wsX8_load := goodIn_r _ [470, 93, 90, 89, 471, 472, 473, 474, 347, 475, 476, 477, 5, 478, 479, 480, 481, 482, 483, 484, 485, 291, 92, 486, 487, 488, 489, 168, 169, 170, 490, 491, 492, 493, 494, 495, 496, 497, 498, 499, 500, 501, 502, 503, 504, 505, 506, 507, 508, 176, 177, 178, 179, 180, 181, 182, 183, 223, 224, 225, 226, 509, 510, 511, 512, 171, 172, 173, 174, 175, 91, 954, 955, 956, 957, 958, 959, 960, 961, 962, 963, 964, 965] (by decide +kernel) (by decide +kernel)
set_option maxRecDepth 20000 in
theorem gL_law_X8_load : GoodIn wsL_law (wsV RL 53 RX8 yX8_load wsX8_load) := goodIn_app (goodIn_of _ (by decide +kernel)) ggL_law_X8_load
set_option maxRecDepth 20000 in
theorem ggL_law_X7_wear : GoodIn wsL_law wsX7_wear := goodIn_r _ [516, 15, 213, 98, 19, 103, 104, 2, 105, 517, 518, 519, 37, 520, 145, 189, 190, 191, 33, 192, 133, 106, 107, 108, 18, 109, 110, 111, 112, 113, 114, 115, 116, 117, 118, 119, 74, 120, 121, 122, 14, 123, 34, 38, 42, 44, 124, 125, 126, 127, 128, 129, 130, 131, 132, 48, 49, 50, 51, 52, 53, 54, 55, 134, 135, 136, 137, 138, 139, 140, 141, 142, 143, 144, 59, 60, 146, 147, 148, 41, 149, 150, 64, 65, 66, 67, 68, 521, 522, 523, 524, 525, 526, 527, 528, 194, 195, 155, 156, 950, 951, 952, 953, 966, 967, 968, 969, 970, 971, 972, 973, 974, 997, 998, 999, 988, 989, 990, 991, 992, 993, 994, 995, 996, 975, 976, 977, 1000, 1001, 1002, 1003, 1004, 1005] (by decide +kernel) (by decide +kernel)
set_option maxRecDepth 20000 in
theorem gL_law_X7_wear : GoodIn wsL_law (wsV RL 54 RX7 yX7_wear wsX7_wear) := goodIn_app (goodIn_of _ (by decide +kernel)) ggL_law_X7_wear
set_option maxRecDepth 20000 in
theorem ggL_law_X8_wear : GoodIn wsL_law wsX8_wear := goodIn_r _ [532, 93, 533, 534, 5, 535, 536, 168, 169, 170, 537, 538, 539, 540, 89, 201, 202, 203, 204, 205, 206, 207, 208, 171, 172, 173, 174, 175, 91, 954, 955, 956, 957, 958, 959, 960, 961, 962, 963, 964, 965] (by decide +kernel) (by decide +kernel)
set_option maxRecDepth 20000 in
theorem gL_law_X8_wear : GoodIn wsL_law (wsV RL 57 RX8 yX8_wear wsX8_wear) := goodIn_app (goodIn_of _ (by decide +kernel)) ggL_law_X8_wear
set_option maxRecDepth 20000 in
theorem ggL_law_X7_perform : GoodIn wsL_law wsX7_perform := goodIn_r _ [544, 15, 545, 19, 546, 547, 548, 549, 14, 550, 551, 552, 553, 554, 34, 555, 38, 556, 557, 558, 37, 559, 145, 525, 526, 527, 528, 60, 194, 2, 195, 560, 561, 562, 563, 564, 565, 566, 567, 568, 569, 570, 571, 572, 573, 574, 575, 576, 577, 578, 579, 247, 114, 248, 580, 581, 582, 583, 44, 584, 271, 272, 33, 273, 53, 54, 55, 266, 267, 268, 269, 48, 274, 275, 276, 277, 585, 586, 587, 588, 59, 589, 251, 252, 253, 42, 124, 254, 255, 256, 41, 257, 150, 64, 65, 258, 259, 260, 261, 66, 590, 591, 592, 593, 594, 106, 107, 108, 18, 109, 110, 111, 112, 113, 115, 116, 117, 118, 119, 74, 120, 121, 122, 123, 125, 126, 127, 128, 129, 130, 131, 132, 133, 49, 50, 51, 52, 134, 135, 136, 137, 138, 139, 140, 141, 142, 143, 144, 146, 147, 148, 149, 67, 68, 595, 596, 597, 598, 599, 600, 601, 602, 603, 604, 605, 606, 607, 155, 156, 950, 951, 952, 953, 966, 967, 968, 969, 970, 971, 972, 973, 974, 988, 989, 990, 991, 992, 993, 994, 995, 996, 997, 998, 999, 1000, 1001, 1002, 1003, 1004, 1005, 975, 976, 977] (by decide +kernel) (by decide +kernel)
set_option maxRecDepth 20000 in
theorem gL_law_X7_perform : GoodIn wsL_law (wsV RL 58 RX7 yX7_perform wsX7_perform) := goodIn_app (goodIn_of _ (by decide +kernel)) ggL_law_X7_perform
set_option maxRecDepth 20000 in
theorem ggL_law_X8_perform : GoodIn wsL_law wsX8_perform := goodIn_r _ [611, 93, 89, 612, 613, 614, 5, 615, 616, 617, 618, 619, 620, 621, 622, 623, 624, 625, 626, 627, 628, 629, 630, 631, 632, 633, 634, 635, 636, 637, 638, 639, 640, 641, 642, 643, 308, 309, 310, 311, 312, 313, 314, 315, 644, 645, 646, 647, 316, 317, 318, 292, 293, 294, 295, 296, 297, 298, 299, 300, 301, 302, 303, 168, 169, 170, 171, 172, 173, 174, 175, 91, 648, 649, 650, 651, 180, 181, 182, 183, 954, 955, 956, 957, 958, 959, 960, 961, 962, 963, 964, 965] (by decide +kernel) (by decide +kernel)
set_option maxRecDepth 20000 in
theorem gL_law_X8_perform : GoodIn wsL_law (wsV RL 61 RX8 yX8_perform wsX8_perform) := goodIn_app (goodIn_of _ (by decide +kernel)) ggL_law_X8_perform
set_option maxRecDepth 20000 in
theorem ggL_law_X7_pass : GoodIn wsL_law wsX7_pass := goodIn_r _ [655, 15, 545, 19, 103, 104, 2, 105, 106, 107, 108, 18, 109, 110, 111, 112, 113, 114, 115, 116, 117, 118, 119, 74, 120, 121, 122, 14, 123, 34, 38, 42, 44, 124, 125, 126, 127, 128, 129, 130, 131, 33, 132, 133, 48, 49, 50, 51, 52, 53, 54, 55, 134, 135, 136, 137, 138, 139, 140, 141, 142, 143, 37, 144, 145, 59, 60, 146, 147, 148, 41, 149, 150, 64, 65, 66, 67, 68, 950, 951, 952, 953, 966, 967, 968, 969, 970, 971, 972, 973, 974, 975, 976, 977, 988, 989, 990, 991, 992, 993, 994, 995, 996, 997, 998, 999, 1000, 1001, 1002, 1003, 1004, 1005] (by decide +kernel) (by decide +kernel)
set_option maxRecDepth 20000 in
theorem gL_law_X7_pass : GoodIn wsL_law (wsV RL 62 RX7 yX7_pass wsX7_pass) := goodIn_app (goodIn_of _ (by decide +kernel)) ggL_law_X7_pass
set_option maxRecDepth 20000 in
theorem ggL_law_X8_pass : GoodIn wsL_law wsX8_pass := goodIn_r _ [659, 93, 660, 89, 168, 169, 5, 170, 171, 172, 173, 174, 175, 91, 954, 955, 956, 957, 958, 959, 960, 961, 962, 963, 964, 965] (by decide +kernel) (by decide +kernel)
set_option maxRecDepth 20000 in
theorem gL_law_X8_pass : GoodIn wsL_law (wsV RL 65 RX8 yX8_pass wsX8_pass) := goodIn_app (goodIn_of _ (by decide +kernel)) ggL_law_X8_pass
set_option maxRecDepth 20000 in
theorem ggL_law_X7_hire : GoodIn wsL_law wsX7_hire := goodIn_r _ [664, 15, 98, 545, 665, 666, 19, 667, 189, 190, 191, 33, 192, 133, 103, 104, 2, 105, 668, 255, 256, 41, 257, 150, 64, 65, 194, 195, 258, 259, 260, 261, 66, 106, 107, 108, 18, 109, 110, 111, 112, 113, 114, 115, 116, 117, 118, 119, 74, 120, 121, 122, 14, 123, 34, 38, 42, 44, 124, 125, 126, 127, 128, 129, 130, 131, 132, 48, 49, 50, 51, 52, 53, 54, 55, 134, 135, 136, 137, 138, 139, 140, 141, 142, 143, 37, 144, 145, 59, 60, 146, 147, 148, 149, 67, 68, 669, 670, 671, 672, 673, 674, 675, 155, 156, 950, 951, 952, 953, 966, 967, 968, 969, 970, 971, 972, 973, 974, 1000, 1001, 1002, 1003, 1004, 1005, 988, 989, 990, 991, 992, 993, 994, 995, 996, 975, 976, 977, 997, 998, 999] (by decide +kernel) (by decide +kernel)
set_option maxRecDepth 20000 in
theorem gL_law_X7_hire : GoodIn wsL_law (wsV RL 66 RX7 yX7_hire wsX7_hire) := goodIn_app (goodIn_of _ (by decide +kernel)) ggL_law_X7_hire
set_option maxRecDepth 20000 in
theorem ggL_law_X8_hire : GoodIn wsL_law wsX8_hire := goodIn_r _ [679, 93, 89, 680, 660, 681, 201, 202, 203, 5, 204, 168, 169, 170, 682, 683, 684, 685, 300, 301, 302, 303, 171, 172, 173, 174, 175, 91, 686, 687, 688, 954, 955, 956, 957, 958, 959, 960, 961, 962, 963, 964, 965] (by decide +kernel) (by decide +kernel)
set_option maxRecDepth 20000 in
theorem gL_law_X8_hire : GoodIn wsL_law (wsV RL 70 RX8 yX8_hire wsX8_hire) := goodIn_app (goodIn_of _ (by decide +kernel)) ggL_law_X8_hire
set_option maxRecDepth 20000 in
theorem ggL_law_X7_endHire : GoodIn wsL_law wsX7_endHire := goodIn_r _ [692, 15, 665, 545, 19, 667, 693, 694, 695, 41, 696, 150, 697, 698, 699, 700, 65, 194, 2, 195, 258, 259, 260, 261, 66, 106, 107, 108, 18, 109, 110, 111, 112, 113, 114, 115, 116, 117, 118, 119, 74, 120, 121, 122, 14, 123, 34, 38, 42, 44, 124, 125, 126, 127, 128, 129, 130, 131, 33, 132, 133, 48, 49, 50, 51, 52, 53, 54, 55, 134, 135, 136, 137, 138, 139, 140, 141, 142, 143, 37, 144, 145, 59, 60, 146, 147, 148, 149, 64, 67, 68, 701, 702, 703, 704, 673, 674, 675, 155, 156, 950, 951, 952, 953, 966, 967, 968, 969, 970, 971, 972, 973, 974, 1000, 1001, 1002, 1003, 1004, 1005, 975, 976, 977, 988, 989, 990, 991, 992, 993, 994, 995, 996, 997, 998, 999] (by decide +kernel) (by decide +kernel)
set_option maxRecDepth 20000 in
theorem gL_law_X7_endHire : GoodIn wsL_law (wsV RL 71 RX7 yX7_endHire wsX7_endHire) := goodIn_app (goodIn_of _ (by decide +kernel)) ggL_law_X7_endHire
set_option maxRecDepth 20000 in
theorem ggL_law_X8_endHire : GoodIn wsL_law wsX8_endHire := goodIn_r _ [708, 93, 89, 168, 169, 5, 170, 300, 301, 302, 303, 171, 172, 173, 174, 175, 91, 686, 687, 688, 954, 955, 956, 957, 958, 959, 960, 961, 962, 963, 964, 965] (by decide +kernel) (by decide +kernel)
set_option maxRecDepth 20000 in
theorem gL_law_X8_endHire : GoodIn wsL_law (wsV RL 74 RX8 yX8_endHire wsX8_endHire) := goodIn_app (goodIn_of _ (by decide +kernel)) ggL_law_X8_endHire
set_option maxRecDepth 20000 in
theorem ggL_law_X7_wash : GoodIn wsL_law wsX7_wash := goodIn_r _ [712, 15, 19, 713, 714, 98, 715, 716, 717, 2, 718, 103, 104, 105, 719, 720, 721, 722, 99, 723, 724, 725, 14, 726, 34, 555, 727, 728, 729, 730, 731, 732, 733, 734, 735, 736, 589, 251, 252, 253, 42, 124, 254, 255, 256, 41, 257, 150, 64, 65, 194, 195, 258, 259, 260, 261, 66, 737, 738, 739, 33, 740, 50, 106, 107, 108, 18, 109, 110, 111, 112, 113, 114, 115, 116, 117, 118, 119, 74, 120, 121, 122, 123, 38, 44, 125, 126, 127, 128, 129, 130, 131, 132, 133, 48, 49, 51, 52, 53, 54, 55, 134, 135, 136, 137, 138, 139, 140, 141, 142, 143, 37, 144, 145, 59, 60, 146, 147, 148, 149, 67, 68, 193, 741, 742, 743, 744, 607, 155, 156, 950, 951, 952, 953, 966, 967, 968, 969, 970, 971, 972, 973, 974, 988, 989, 990, 991, 992, 993, 994, 995, 996, 1000, 1001, 1002, 1003, 1004, 1005, 975, 976, 977, 997, 998, 999] (by decide +kernel) (by decide +kernel)
set_option maxRecDepth 20000 in
theorem gL_law_X7_wash : GoodIn wsL_law (wsV RL 75 RX7 yX7_wash wsX7_wash) := goodIn_app (goodIn_of _ (by decide +kernel)) ggL_law_X7_wash
set_option maxRecDepth 20000 in
theorem ggL_law_X8_wash : GoodIn wsL_law wsX8_wash := goodIn_r _ [748, 93, 162, 89, 168, 169, 5, 170, 749, 750, 751, 752, 753, 754, 755, 312, 313, 314, 315, 292, 293, 294, 295, 296, 297, 298, 299, 300, 301, 302, 303, 756, 757, 758, 171, 172, 173, 174, 175, 91, 759, 760, 761, 180, 181, 182, 183, 762, 763, 764, 954, 955, 956, 957, 958, 959, 960, 961, 962, 963, 964, 965] (by decide +kernel) (by decide +kernel)
set_option maxRecDepth 20000 in
theorem gL_law_X8_wash : GoodIn wsL_law (wsV RL 78 RX8 yX8_wash wsX8_wash) := goodIn_app (goodIn_of _ (by decide +kernel)) ggL_law_X8_wash
set_option maxRecDepth 20000 in
theorem ggL_law_X7_undo : GoodIn wsL_law wsX7_undo := goodIn_r _ [768, 19, 769, 15, 770, 771, 772, 18, 773, 110, 111, 116, 117, 118, 119, 74, 120, 121, 122, 14, 123, 34, 38, 42, 44, 124, 125, 126, 127, 128, 129, 130, 131, 33, 132, 133, 48, 49, 50, 51, 52, 53, 54, 55, 134, 2, 135, 136, 113, 114, 115, 137, 138, 139, 140, 141, 142, 143, 37, 144, 145, 59, 60, 146, 147, 148, 41, 149, 150, 64, 65, 66, 67, 68, 950, 951, 952, 953, 975, 976, 977, 966, 967, 968, 969, 970, 971, 972, 973, 974, 988, 989, 990, 991, 992, 993, 994, 995, 996, 997, 998, 999, 1000, 1001, 1002, 1003, 1004, 1005] (by decide +kernel) (by decide +kernel)
set_option maxRecDepth 20000 in
theorem gL_law_X7_undo : GoodIn wsL_law (wsV RL 79 RX7 yX7_undo wsX7_undo) := goodIn_app (goodIn_of _ (by decide +kernel)) ggL_law_X7_undo
set_option maxRecDepth 20000 in
theorem ggL_law_X8_undo : GoodIn wsL_law wsX8_undo := goodIn_r _ [777, 93, 175, 89, 91, 954, 955, 956, 957, 958, 959, 960, 961, 962, 963, 964, 965] (by decide +kernel) (by decide +kernel)
set_option maxRecDepth 20000 in
theorem gL_law_X8_undo : GoodIn wsL_law (wsV RL 82 RX8 yX8_undo wsX8_undo) := goodIn_app (goodIn_of _ (by decide +kernel)) ggL_law_X8_undo
set_option maxRecDepth 20000 in
theorem ggL_law_X7_count : GoodIn wsL_law wsX7_count := goodIn_r _ [781, 15, 98, 99, 213, 214, 665, 666, 545, 249, 667, 713, 546, 19, 769, 23, 336, 231, 782, 783, 784, 37, 785, 145, 525, 526, 527, 528, 60, 194, 2, 195, 786, 787, 788, 14, 789, 34, 555, 589, 251, 252, 253, 42, 124, 254, 255, 256, 41, 257, 150, 64, 65, 258, 259, 260, 261, 66, 103, 104, 105, 193, 950, 951, 952, 953, 966, 967, 968, 969, 970, 971, 972, 973, 974, 988, 989, 990, 991, 992, 993, 994, 995, 996, 997, 998, 999, 1000, 1001, 1002, 1003, 1004, 1005, 975, 976, 977, 978, 979] (by decide +kernel) (by decide +kernel)
set_option maxRecDepth 20000 in
theorem gL_law_X7_count : GoodIn wsL_law (wsV RL 83 RX7 yX7_count wsX7_count) := goodIn_app (goodIn_of _ (by decide +kernel)) ggL_law_X7_count
set_option maxRecDepth 20000 in
theorem ggL_law_X8_count : GoodIn wsL_law wsX8_count := goodIn_r _ [793, 93, 89, 175, 347, 794, 795, 796, 797, 798, 5, 799, 624, 625, 626, 627, 800, 801, 802, 803, 292, 293, 294, 295, 296, 297, 298, 299, 300, 301, 302, 303, 168, 169, 170, 954, 955, 956, 957, 958, 959, 960, 961, 962, 963, 964, 965] (by decide +kernel) (by decide +kernel)
set_option maxRecDepth 20000 in
theorem gL_law_X8_count : GoodIn wsL_law (wsV RL 86 RX8 yX8_count wsX8_count) := goodIn_app (goodIn_of _ (by decide +kernel)) ggL_law_X8_count
set_option maxRecDepth 20000 in
theorem ggL_law_X7_costume : GoodIn wsL_law wsX7_costume := goodIn_r _ [807, 15, 98, 808, 809, 188, 810, 323, 213, 665, 189, 190, 191, 33, 192, 133, 811, 271, 272, 273, 53, 54, 55, 266, 267, 268, 269, 48, 194, 2, 195, 274, 275, 276, 277, 812, 193, 813, 600, 601, 37, 602, 568, 557, 558, 559, 145, 525, 526, 527, 528, 60, 814, 815, 816, 41, 817, 150, 64, 950, 951, 952, 953, 966, 967, 968, 969, 970, 971, 972, 973, 974, 988, 989, 990, 991, 992, 993, 994, 995, 996, 997, 998, 999, 1000, 1001, 1002, 1003, 1004, 1005] (by decide +kernel) (by decide +kernel)
set_option maxRecDepth 20000 in
theorem gL_law_X7_costume : GoodIn wsL_law (wsV RL 87 RX7 yX7_costume wsX7_costume) := goodIn_app (goodIn_of _ (by decide +kernel)) ggL_law_X7_costume
set_option maxRecDepth 20000 in
theorem ggL_law_X8_costume : GoodIn wsL_law wsX8_costume := goodIn_r _ [821, 93, 794, 201, 202, 203, 5, 204, 89, 168, 169, 170, 308, 309, 310, 311, 312, 313, 314, 315, 648, 649, 650, 651, 620, 621, 622, 623, 624, 625, 626, 627, 822, 823, 824, 825, 300, 301, 302, 303, 954, 955, 956, 957, 958, 959, 960, 961, 962, 963, 964, 965] (by decide +kernel) (by decide +kernel)
set_option maxRecDepth 20000 in
theorem gL_law_X8_costume : GoodIn wsL_law (wsV RL 90 RX8 yX8_costume wsX8_costume) := goodIn_app (goodIn_of _ (by decide +kernel)) ggL_law_X8_costume
set_option maxRecDepth 20000 in
theorem ggL_law_X7_alteration : GoodIn wsL_law wsX7_alteration := goodIn_r _ [829, 15, 98, 323, 830, 831, 189, 190, 191, 33, 192, 133, 103, 104, 2, 105, 193, 194, 195, 832, 275, 276, 277, 950, 951, 952, 953, 966, 967, 968, 969, 970, 971, 972, 973, 974, 988, 989, 990, 991, 992, 993, 994, 995, 996] (by decide +kernel) (by decide +kernel)
set_option maxRecDepth 20000 in
theorem gL_law_X7_alteration : GoodIn wsL_law (wsV RL 91 RX7 yX7_alteration wsX7_alteration) := goodIn_app (goodIn_of _ (by decide +kernel)) ggL_law_X7_alteration
set_option maxRecDepth 20000 in
theorem ggL_law_X8_alteration : GoodIn wsL_law wsX8_alteration := goodIn_r _ [836, 93, 201, 202, 203, 5, 204, 89, 168, 169, 170, 312, 313, 314, 315, 954, 955, 956, 957, 958, 959, 960, 961, 962, 963, 964, 965] (by decide +kernel) (by decide +kernel)
set_option maxRecDepth 20000 in
theorem gL_law_X8_alteration : GoodIn wsL_law (wsV RL 94 RX8 yX8_alteration wsX8_alteration) := goodIn_app (goodIn_of _ (by decide +kernel)) ggL_law_X8_alteration
set_option maxRecDepth 20000 in
theorem ggL_law_X7_actor : GoodIn wsL_law wsX7_actor := goodIn_r _ [840, 15, 213, 517, 518, 519, 37, 520, 145, 103, 104, 2, 105, 841, 586, 587, 588, 59, 194, 195, 842, 526, 527, 528, 60, 950, 951, 952, 953, 966, 967, 968, 969, 970, 971, 972, 973, 974, 997, 998, 999] (by decide +kernel) (by decide +kernel)
set_option maxRecDepth 20000 in
theorem gL_law_X7_actor : GoodIn wsL_law (wsV RL 95 RX7 yX7_actor wsX7_actor) := goodIn_app (goodIn_of _ (by decide +kernel)) ggL_law_X7_actor
set_option maxRecDepth 20000 in
theorem ggL_law_X8_actor : GoodIn wsL_law wsX8_actor := goodIn_r _ [846, 93, 847, 537, 538, 539, 5, 540, 89, 168, 169, 170, 644, 645, 646, 647, 624, 625, 626, 627, 954, 955, 956, 957, 958, 959, 960, 961, 962, 963, 964, 965] (by decide +kernel) (by decide +kernel)
set_option maxRecDepth 20000 in
theorem gL_law_X8_actor : GoodIn wsL_law (wsV RL 98 RX8 yX8_actor wsX8_actor) := goodIn_app (goodIn_of _ (by decide +kernel)) ggL_law_X8_actor
set_option maxRecDepth 20000 in
theorem ggL_law_X7_hired : GoodIn wsL_law wsX7_hired := goodIn_r _ [851, 15, 665, 852, 853, 854, 855, 693, 694, 695, 41, 696, 150, 193, 194, 2, 195, 950, 951, 952, 953, 966, 967, 968, 969, 970, 971, 972, 973, 974, 1000, 1001, 1002, 1003, 1004, 1005] (by decide +kernel) (by decide +kernel)
set_option maxRecDepth 20000 in
theorem gL_law_X7_hired : GoodIn wsL_law (wsV RL 99 RX7 yX7_hired wsX7_hired) := goodIn_app (goodIn_of _ (by decide +kernel)) ggL_law_X7_hired
set_option maxRecDepth 20000 in
theorem ggL_law_X8_hired : GoodIn wsL_law wsX8_hired := goodIn_r _ [859, 93, 89, 162, 168, 169, 5, 170, 300, 301, 302, 303, 954, 955, 956, 957, 958, 959, 960, 961, 962, 963, 964, 965] (by decide +kernel) (by decide +kernel)
set_option maxRecDepth 20000 in
theorem gL_law_X8_hired : GoodIn wsL_law (wsV RL 102 RX8 yX8_hired wsX8_hired) := goodIn_app (goodIn_of _ (by decide +kernel)) ggL_law_X8_hired
set_option maxRecDepth 20000 in
theorem ggL_law_X7_problems : GoodIn wsL_law wsX7_problems := goodIn_r _ [863, 15, 103, 104, 2, 105, 547, 548, 549, 14, 550, 551, 552, 553, 554, 34, 555, 38, 556, 557, 558, 37, 559, 145, 525, 526, 527, 528, 60, 194, 195, 560, 561, 562, 563, 564, 565, 566, 567, 568, 569, 570, 571, 572, 573, 574, 575, 576, 577, 578, 579, 247, 114, 248, 580, 581, 582, 583, 44, 584, 271, 272, 33, 273, 53, 54, 55, 266, 267, 268, 269, 48, 274, 275, 276, 277, 585, 586, 587, 588, 59, 589, 251, 252, 253, 42, 124, 254, 255, 256, 41, 257, 150, 64, 65, 258, 259, 260, 261, 66, 590, 591, 592, 593, 594, 950, 951, 952, 953, 966, 967, 968, 969, 970, 971, 972, 973, 974, 988, 989, 990, 991, 992, 993, 994, 995, 996, 997, 998, 999, 1000, 1001, 1002, 1003, 1004, 1005] (by decide +kernel) (by decide +kernel)
set_option maxRecDepth 20000 in
theorem gL_law_X7_problems : GoodIn wsL_law (wsV RL 103 RX7 yX7_problems wsX7_problems) := goodIn_app (goodIn_of _ (by decide +kernel)) ggL_law_X7_problems
set_option maxRecDepth 20000 in
theorem ggL_law_X8_problems : GoodIn wsL_law wsX8_problems := goodIn_r _ [867, 93, 868, 168, 169, 5, 170, 612, 613, 614, 615, 89, 616, 617, 618, 619, 620, 621, 622, 623, 624, 625, 626, 627, 628, 629, 630, 631, 632, 633, 634, 635, 636, 637, 638, 639, 640, 641, 642, 643, 308, 309, 310, 311, 312, 313, 314, 315, 644, 645, 646, 647, 316, 317, 318, 292, 293, 294, 295, 296, 297, 298, 299, 300, 301, 302, 303, 954, 955, 956, 957, 958, 959, 960, 961, 962, 963, 964, 965] (by decide +kernel) (by decide +kernel)
set_option maxRecDepth 20000 in
theorem gL_law_X8_problems : GoodIn wsL_law (wsV RL 106 RX8 yX8_problems wsX8_problems) := goodIn_app (goodIn_of _ (by decide +kernel)) ggL_law_X8_problems
set_option maxRecDepth 20000 in
theorem ggL_law_X7_misfit : GoodIn wsL_law wsX7_misfit := goodIn_r _ [872, 15, 98, 213, 189, 190, 191, 33, 192, 133, 517, 518, 519, 37, 520, 145, 873, 576, 577, 14, 578, 579, 247, 114, 248, 580, 581, 582, 583, 34, 38, 44, 584, 271, 272, 273, 53, 54, 55, 266, 267, 268, 269, 48, 194, 2, 195, 274, 275, 276, 277, 585, 586, 587, 588, 59, 950, 951, 952, 953, 966, 967, 968, 969, 970, 971, 972, 973, 974, 988, 989, 990, 991, 992, 993, 994, 995, 996, 997, 998, 999] (by decide +kernel) (by decide +kernel)
set_option maxRecDepth 20000 in
theorem gL_law_X7_misfit : GoodIn wsL_law (wsV RL 107 RX7 yX7_misfit wsX7_misfit) := goodIn_app (goodIn_of _ (by decide +kernel)) ggL_law_X7_misfit
set_option maxRecDepth 20000 in
theorem ggL_law_X8_misfit : GoodIn wsL_law wsX8_misfit := goodIn_r _ [877, 93, 201, 202, 203, 5, 204, 89, 168, 169, 170, 537, 538, 539, 540, 636, 637, 638, 639, 640, 641, 642, 643, 308, 309, 310, 311, 312, 313, 314, 315, 644, 645, 646, 647, 316, 317, 318, 954, 955, 956, 957, 958, 959, 960, 961, 962, 963, 964, 965] (by decide +kernel) (by decide +kernel)
set_option maxRecDepth 20000 in
theorem gL_law_X8_misfit : GoodIn wsL_law (wsV RL 110 RX8 yX8_misfit wsX8_misfit) := goodIn_app (goodIn_of _ (by decide +kernel)) ggL_law_X8_misfit
set_option maxRecDepth 20000 in
theorem ggL_law_X7_leastAlteration : GoodIn wsL_law wsX7_leastAlteration := goodIn_r _ [881, 15, 98, 213, 189, 190, 191, 33, 192, 133, 517, 518, 519, 37, 520, 145, 882, 883, 884, 14, 885, 34, 579, 247, 114, 248, 886, 279, 280, 281, 53, 194, 2, 195, 580, 581, 582, 583, 38, 44, 584, 271, 272, 273, 54, 55, 266, 267, 268, 269, 48, 274, 275, 276, 277, 585, 586, 587, 588, 59, 887, 263, 264, 265, 49, 270, 950, 951, 952, 953, 966, 967, 968, 969, 970, 971, 972, 973, 974, 988, 989, 990, 991, 992, 993, 994, 995, 996, 997, 998, 999] (by decide +kernel) (by decide +kernel)
set_option maxRecDepth 20000 in
theorem gL_law_X7_leastAlteration : GoodIn wsL_law (wsV RL 111 RX7 yX7_leastAlteration wsX7_leastAlteration) := goodIn_app (goodIn_of _ (by decide +kernel)) ggL_law_X7_leastAlteration
set_option maxRecDepth 20000 in
theorem ggL_law_X8_leastAlteration : GoodIn wsL_law wsX8_leastAlteration := goodIn_r _ [891, 93, 201, 202, 203, 5, 204, 89, 168, 169, 170, 537, 538, 539, 540, 892, 893, 894, 895, 290, 291, 640, 641, 642, 643, 308, 309, 310, 311, 312, 313, 314, 315, 644, 645, 646, 647, 304, 305, 306, 307, 316, 317, 318, 954, 955, 956, 957, 958, 959, 960, 961, 962, 963, 964, 965] (by decide +kernel) (by decide +kernel)
set_option maxRecDepth 20000 in
theorem gL_law_X8_leastAlteration : GoodIn wsL_law (wsV RL 114 RX8 yX8_leastAlteration wsX8_leastAlteration) := goodIn_app (goodIn_of _ (by decide +kernel)) ggL_law_X8_leastAlteration
set_option maxRecDepth 20000 in
theorem ggL_law_X7_costumeFor : GoodIn wsL_law wsX7_costumeFor := goodIn_r _ [899, 15, 213, 103, 104, 2, 105, 517, 518, 519, 37, 520, 145, 900, 901, 902, 14, 903, 34, 555, 904, 905, 906, 907, 908, 113, 114, 115, 909, 910, 911, 38, 589, 251, 252, 253, 42, 124, 254, 255, 256, 41, 257, 150, 64, 65, 194, 195, 258, 259, 260, 261, 66, 590, 591, 592, 593, 594, 44, 912, 913, 914, 915, 525, 526, 527, 528, 60, 568, 557, 558, 559, 916, 883, 884, 885, 579, 247, 248, 886, 279, 280, 33, 281, 53, 580, 581, 582, 583, 584, 271, 272, 273, 54, 55, 266, 267, 268, 269, 48, 274, 275, 276, 277, 585, 586, 587, 588, 59, 887, 263, 264, 265, 49, 270, 950, 951, 952, 953, 966, 967, 968, 969, 970, 971, 972, 973, 974, 997, 998, 999, 988, 989, 990, 991, 992, 993, 994, 995, 996, 1000, 1001, 1002, 1003, 1004, 1005] (by decide +kernel) (by decide +kernel)
set_option maxRecDepth 20000 in
theorem gL_law_X7_costumeFor : GoodIn wsL_law (wsV RL 115 RX7 yX7_costumeFor wsX7_costumeFor) := goodIn_app (goodIn_of _ (by decide +kernel)) ggL_law_X7_costumeFor
set_option maxRecDepth 20000 in
theorem ggL_law_X8_costumeFor : GoodIn wsL_law wsX8_costumeFor := goodIn_r _ [920, 93, 89, 533, 534, 5, 535, 536, 168, 169, 170, 537, 538, 539, 540, 921, 922, 923, 924, 620, 621, 622, 623, 624, 625, 626, 627, 292, 293, 294, 295, 296, 297, 298, 299, 300, 301, 302, 303, 312, 313, 314, 315, 892, 893, 894, 895, 290, 291, 640, 641, 642, 643, 308, 309, 310, 311, 644, 645, 646, 647, 304, 305, 306, 307, 316, 317, 318, 954, 955, 956, 957, 958, 959, 960, 961, 962, 963, 964, 965] (by decide +kernel) (by decide +kernel)
set_option maxRecDepth 20000 in
theorem gL_law_X8_costumeFor : GoodIn wsL_law (wsV RL 118 RX8 yX8_costumeFor wsX8_costumeFor) := goodIn_app (goodIn_of _ (by decide +kernel)) ggL_law_X8_costumeFor
set_option maxRecDepth 20000 in
theorem ggL_law_X7_freeFrom : GoodIn wsL_law wsX7_freeFrom := goodIn_r _ [928, 15, 98, 665, 545, 189, 190, 191, 33, 192, 133, 103, 104, 2, 105, 929, 930, 931, 41, 932, 933, 255, 256, 257, 150, 64, 65, 194, 195, 258, 259, 260, 261, 66, 950, 951, 952, 953, 966, 967, 968, 969, 970, 971, 972, 973, 974, 988, 989, 990, 991, 992, 993, 994, 995, 996, 1000, 1001, 1002, 1003, 1004, 1005] (by decide +kernel) (by decide +kernel)
set_option maxRecDepth 20000 in
theorem gL_law_X7_freeFrom : GoodIn wsL_law (wsV RL 119 RX7 yX7_freeFrom wsX7_freeFrom) := goodIn_app (goodIn_of _ (by decide +kernel)) ggL_law_X7_freeFrom
set_option maxRecDepth 20000 in
theorem ggL_law_X8_freeFrom : GoodIn wsL_law wsX8_freeFrom := goodIn_r _ [937, 93, 660, 89, 201, 202, 203, 5, 204, 168, 169, 170, 682, 683, 684, 685, 300, 301, 302, 303, 954, 955, 956, 957, 958, 959, 960, 961, 962, 963, 964, 965] (by decide +kernel) (by decide +kernel)
set_option maxRecDepth 20000 in
theorem gL_law_X8_freeFrom : GoodIn wsL_law (wsV RL 122 RX8 yX8_freeFrom wsX8_freeFrom) := goodIn_app (goodIn_of _ (by decide +kernel)) ggL_law_X8_freeFrom
set_option maxRecDepth 20000 in
theorem ggL_law_X7_washable : GoodIn wsL_law wsX7_washable := goodIn_r _ [941, 15, 716, 717, 2, 718, 103, 104, 105, 942, 943, 944, 14, 945, 34, 555, 727, 594, 194, 195, 589, 251, 252, 253, 42, 124, 254, 255, 256, 41, 257, 150, 64, 65, 258, 259, 260, 261, 66, 737, 738, 739, 33, 740, 50, 735, 736, 950, 951, 952, 953, 966, 967, 968, 969, 970, 971, 972, 973, 974, 988, 989, 990, 991, 992, 993, 994, 995, 996, 1000, 1001, 1002, 1003, 1004, 1005] (by decide +kernel) (by decide +kernel)
set_option maxRecDepth 20000 in
theorem gL_law_X7_washable : GoodIn wsL_law (wsV RL 123 RX7 yX7_washable wsX7_washable) := goodIn_app (goodIn_of _ (by decide +kernel)) ggL_law_X7_washable
set_option maxRecDepth 20000 in
theorem ggL_law_X8_washable : GoodIn wsL_law wsX8_washable := goodIn_r _ [949, 93, 162, 89, 168, 169, 5, 170, 312, 313, 314, 315, 292, 293, 294, 295, 296, 297, 298, 299, 300, 301, 302, 303, 756, 757, 758, 954, 955, 956, 957, 958, 959, 960, 961, 962, 963, 964, 965] (by decide +kernel) (by decide +kernel)
set_option maxRecDepth 20000 in
theorem gL_law_X8_washable : GoodIn wsL_law (wsV RL 126 RX8 yX8_washable wsX8_washable) := goodIn_app (goodIn_of _ (by decide +kernel)) ggL_law_X8_washable
theorem dL_law_0 : decode cL_law 0 = .ok (.new 7, 3) := by decide +kernel
theorem dL_law_3 : decode cL_law 3 = .ok (.dup, 1) := by decide +kernel
theorem dL_law_4 : decode cL_law 4 = .ok (.invokespecial 9, 3) := by decide +kernel
theorem dL_law_7 : decode cL_law 7 = .ok (.astore_n 1, 1) := by decide +kernel
theorem dL_law_8 : decode cL_law 8 = .ok (.new 10, 3) := by decide +kernel
theorem dL_law_11 : decode cL_law 11 = .ok (.dup, 1) := by decide +kernel
theorem dL_law_12 : decode cL_law 12 = .ok (.invokespecial 12, 3) := by decide +kernel
theorem dL_law_15 : decode cL_law 15 = .ok (.astore_n 2, 1) := by decide +kernel
theorem dL_law_16 : decode cL_law 16 = .ok (.iconst 0, 1) := by decide +kernel
theorem dL_law_17 : decode cL_law 17 = .ok (.istore_n 3, 1) := by decide +kernel
theorem dL_law_18 : decode cL_law 18 = .ok (.iload_n 3, 1) := by decide +kernel
theorem dL_law_19 : decode cL_law 19 = .ok (.aload_n 0, 1) := by decide +kernel
theorem dL_law_20 : decode cL_law 20 = .ok (.arraylength, 1) := by decide +kernel
theorem dL_law_21 : decode cL_law 21 = .ok (.bipush 6, 2) := by decide +kernel
theorem dL_law_23 : decode cL_law 23 = .ok (.isub, 1) := by decide +kernel
theorem dL_law_24 : decode cL_law 24 = .ok (.if_icmp .gt 979, 3) := by decide +kernel
theorem dL_law_27 : decode cL_law 27 = .ok (.aload_n 0, 1) := by decide +kernel
theorem dL_law_28 : decode cL_law 28 = .ok (.iload_n 3, 1) := by decide +kernel
theorem dL_law_29 : decode cL_law 29 = .ok (.iaload, 1) := by decide +kernel
theorem dL_law_30 : decode cL_law 30 = .ok (.bipush 31, 2) := by decide +kernel
theorem dL_law_32 : decode cL_law 32 = .ok (.iand, 1) := by decide +kernel
theorem dL_law_33 : decode cL_law 33 = .ok (.tableswitch 964 0 26 #[123, 186, 219, 262, 295, 338, 361, 384, 397, 410, 453, 466, 489, 542, 565, 598, 611, 634, 667, 710, 743, 776, 799, 832, 865, 898, 931], 123) := by decide +kernel
theorem dL_law_156 : decode cL_law 156 = .ok (.aload_n 1, 1) := by decide +kernel
theorem dL_law_157 : decode cL_law 157 = .ok (.aload_n 0, 1) := by decide +kernel
theorem dL_law_158 : decode cL_law 158 = .ok (.iload_n 3, 1) := by decide +kernel
theorem dL_law_159 : decode cL_law 159 = .ok (.iconst 1, 1) := by decide +kernel
theorem dL_law_160 : decode cL_law 160 = .ok (.iadd, 1) := by decide +kernel
theorem dL_law_161 : decode cL_law 161 = .ok (.iaload, 1) := by decide +kernel
theorem dL_law_162 : decode cL_law 162 = .ok (.aload_n 0, 1) := by decide +kernel
theorem dL_law_163 : decode cL_law 163 = .ok (.iload_n 3, 1) := by decide +kernel
theorem dL_law_164 : decode cL_law 164 = .ok (.iconst 2, 1) := by decide +kernel
theorem dL_law_165 : decode cL_law 165 = .ok (.iadd, 1) := by decide +kernel
theorem dL_law_166 : decode cL_law 166 = .ok (.iaload, 1) := by decide +kernel
theorem dL_law_167 : decode cL_law 167 = .ok (.aload_n 0, 1) := by decide +kernel
theorem dL_law_168 : decode cL_law 168 = .ok (.iload_n 3, 1) := by decide +kernel
theorem dL_law_169 : decode cL_law 169 = .ok (.iconst 3, 1) := by decide +kernel
theorem dL_law_170 : decode cL_law 170 = .ok (.iadd, 1) := by decide +kernel
theorem dL_law_171 : decode cL_law 171 = .ok (.iaload, 1) := by decide +kernel
theorem dL_law_172 : decode cL_law 172 = .ok (.aload_n 0, 1) := by decide +kernel
theorem dL_law_173 : decode cL_law 173 = .ok (.iload_n 3, 1) := by decide +kernel
theorem dL_law_174 : decode cL_law 174 = .ok (.iconst 4, 1) := by decide +kernel
theorem dL_law_175 : decode cL_law 175 = .ok (.iadd, 1) := by decide +kernel
theorem dL_law_176 : decode cL_law 176 = .ok (.iaload, 1) := by decide +kernel
theorem dL_law_177 : decode cL_law 177 = .ok (.aload_n 0, 1) := by decide +kernel
theorem dL_law_178 : decode cL_law 178 = .ok (.iload_n 3, 1) := by decide +kernel
theorem dL_law_179 : decode cL_law 179 = .ok (.iconst 5, 1) := by decide +kernel
theorem dL_law_180 : decode cL_law 180 = .ok (.iadd, 1) := by decide +kernel
theorem dL_law_181 : decode cL_law 181 = .ok (.iaload, 1) := by decide +kernel
theorem dL_law_182 : decode cL_law 182 = .ok (.invokevirtual 13, 3) := by decide +kernel
theorem dL_law_185 : decode cL_law 185 = .ok (.aload_n 2, 1) := by decide +kernel
theorem dL_law_186 : decode cL_law 186 = .ok (.aload_n 0, 1) := by decide +kernel
theorem dL_law_187 : decode cL_law 187 = .ok (.iload_n 3, 1) := by decide +kernel
theorem dL_law_188 : decode cL_law 188 = .ok (.iconst 1, 1) := by decide +kernel
theorem dL_law_189 : decode cL_law 189 = .ok (.iadd, 1) := by decide +kernel
theorem dL_law_190 : decode cL_law 190 = .ok (.iaload, 1) := by decide +kernel
theorem dL_law_191 : decode cL_law 191 = .ok (.aload_n 0, 1) := by decide +kernel
theorem dL_law_192 : decode cL_law 192 = .ok (.iload_n 3, 1) := by decide +kernel
theorem dL_law_193 : decode cL_law 193 = .ok (.iconst 2, 1) := by decide +kernel
theorem dL_law_194 : decode cL_law 194 = .ok (.iadd, 1) := by decide +kernel
theorem dL_law_195 : decode cL_law 195 = .ok (.iaload, 1) := by decide +kernel
theorem dL_law_196 : decode cL_law 196 = .ok (.aload_n 0, 1) := by decide +kernel
theorem dL_law_197 : decode cL_law 197 = .ok (.iload_n 3, 1) := by decide +kernel
theorem dL_law_198 : decode cL_law 198 = .ok (.iconst 3, 1) := by decide +kernel
theorem dL_law_199 : decode cL_law 199 = .ok (.iadd, 1) := by decide +kernel
theorem dL_law_200 : decode cL_law 200 = .ok (.iaload, 1) := by decide +kernel
theorem dL_law_201 : decode cL_law 201 = .ok (.aload_n 0, 1) := by decide +kernel
theorem dL_law_202 : decode cL_law 202 = .ok (.iload_n 3, 1) := by decide +kernel
theorem dL_law_203 : decode cL_law 203 = .ok (.iconst 4, 1) := by decide +kernel
theorem dL_law_204 : decode cL_law 204 = .ok (.iadd, 1) := by decide +kernel
theorem dL_law_205 : decode cL_law 205 = .ok (.iaload, 1) := by decide +kernel
theorem dL_law_206 : decode cL_law 206 = .ok (.aload_n 0, 1) := by decide +kernel
theorem dL_law_207 : decode cL_law 207 = .ok (.iload_n 3, 1) := by decide +kernel
theorem dL_law_208 : decode cL_law 208 = .ok (.iconst 5, 1) := by decide +kernel
theorem dL_law_209 : decode cL_law 209 = .ok (.iadd, 1) := by decide +kernel
theorem dL_law_210 : decode cL_law 210 = .ok (.iaload, 1) := by decide +kernel
theorem dL_law_211 : decode cL_law 211 = .ok (.invokevirtual 17, 3) := by decide +kernel
theorem dL_law_214 : decode cL_law 214 = .ok (.if_icmp .eq 783, 3) := by decide +kernel
theorem dL_law_217 : decode cL_law 217 = .ok (.iconst 0, 1) := by decide +kernel
theorem dL_law_218 : decode cL_law 218 = .ok (.ireturn, 1) := by decide +kernel
theorem dL_law_219 : decode cL_law 219 = .ok (.aload_n 1, 1) := by decide +kernel
theorem dL_law_220 : decode cL_law 220 = .ok (.aload_n 0, 1) := by decide +kernel
theorem dL_law_221 : decode cL_law 221 = .ok (.iload_n 3, 1) := by decide +kernel
theorem dL_law_222 : decode cL_law 222 = .ok (.iconst 1, 1) := by decide +kernel
theorem dL_law_223 : decode cL_law 223 = .ok (.iadd, 1) := by decide +kernel
theorem dL_law_224 : decode cL_law 224 = .ok (.iaload, 1) := by decide +kernel
theorem dL_law_225 : decode cL_law 225 = .ok (.aload_n 0, 1) := by decide +kernel
theorem dL_law_226 : decode cL_law 226 = .ok (.iload_n 3, 1) := by decide +kernel
theorem dL_law_227 : decode cL_law 227 = .ok (.iconst 2, 1) := by decide +kernel
theorem dL_law_228 : decode cL_law 228 = .ok (.iadd, 1) := by decide +kernel
theorem dL_law_229 : decode cL_law 229 = .ok (.iaload, 1) := by decide +kernel
theorem dL_law_230 : decode cL_law 230 = .ok (.invokevirtual 18, 3) := by decide +kernel
theorem dL_law_233 : decode cL_law 233 = .ok (.aload_n 2, 1) := by decide +kernel
theorem dL_law_234 : decode cL_law 234 = .ok (.aload_n 0, 1) := by decide +kernel
theorem dL_law_235 : decode cL_law 235 = .ok (.iload_n 3, 1) := by decide +kernel
theorem dL_law_236 : decode cL_law 236 = .ok (.iconst 1, 1) := by decide +kernel
theorem dL_law_237 : decode cL_law 237 = .ok (.iadd, 1) := by decide +kernel
theorem dL_law_238 : decode cL_law 238 = .ok (.iaload, 1) := by decide +kernel
theorem dL_law_239 : decode cL_law 239 = .ok (.aload_n 0, 1) := by decide +kernel
theorem dL_law_240 : decode cL_law 240 = .ok (.iload_n 3, 1) := by decide +kernel
theorem dL_law_241 : decode cL_law 241 = .ok (.iconst 2, 1) := by decide +kernel
theorem dL_law_242 : decode cL_law 242 = .ok (.iadd, 1) := by decide +kernel
theorem dL_law_243 : decode cL_law 243 = .ok (.iaload, 1) := by decide +kernel
theorem dL_law_244 : decode cL_law 244 = .ok (.invokevirtual 22, 3) := by decide +kernel
theorem dL_law_247 : decode cL_law 247 = .ok (.if_icmp .eq 750, 3) := by decide +kernel
theorem dL_law_250 : decode cL_law 250 = .ok (.iconst 0, 1) := by decide +kernel
theorem dL_law_251 : decode cL_law 251 = .ok (.ireturn, 1) := by decide +kernel
theorem dL_law_252 : decode cL_law 252 = .ok (.aload_n 1, 1) := by decide +kernel
theorem dL_law_253 : decode cL_law 253 = .ok (.aload_n 0, 1) := by decide +kernel
theorem dL_law_254 : decode cL_law 254 = .ok (.iload_n 3, 1) := by decide +kernel
theorem dL_law_255 : decode cL_law 255 = .ok (.iconst 1, 1) := by decide +kernel
theorem dL_law_256 : decode cL_law 256 = .ok (.iadd, 1) := by decide +kernel
theorem dL_law_257 : decode cL_law 257 = .ok (.iaload, 1) := by decide +kernel
theorem dL_law_258 : decode cL_law 258 = .ok (.aload_n 0, 1) := by decide +kernel
theorem dL_law_259 : decode cL_law 259 = .ok (.iload_n 3, 1) := by decide +kernel
theorem dL_law_260 : decode cL_law 260 = .ok (.iconst 2, 1) := by decide +kernel
theorem dL_law_261 : decode cL_law 261 = .ok (.iadd, 1) := by decide +kernel
theorem dL_law_262 : decode cL_law 262 = .ok (.iaload, 1) := by decide +kernel
theorem dL_law_263 : decode cL_law 263 = .ok (.aload_n 0, 1) := by decide +kernel
theorem dL_law_264 : decode cL_law 264 = .ok (.iload_n 3, 1) := by decide +kernel
theorem dL_law_265 : decode cL_law 265 = .ok (.iconst 3, 1) := by decide +kernel
theorem dL_law_266 : decode cL_law 266 = .ok (.iadd, 1) := by decide +kernel
theorem dL_law_267 : decode cL_law 267 = .ok (.iaload, 1) := by decide +kernel
theorem dL_law_268 : decode cL_law 268 = .ok (.invokevirtual 23, 3) := by decide +kernel
theorem dL_law_271 : decode cL_law 271 = .ok (.aload_n 2, 1) := by decide +kernel
theorem dL_law_272 : decode cL_law 272 = .ok (.aload_n 0, 1) := by decide +kernel
theorem dL_law_273 : decode cL_law 273 = .ok (.iload_n 3, 1) := by decide +kernel
theorem dL_law_274 : decode cL_law 274 = .ok (.iconst 1, 1) := by decide +kernel
theorem dL_law_275 : decode cL_law 275 = .ok (.iadd, 1) := by decide +kernel
theorem dL_law_276 : decode cL_law 276 = .ok (.iaload, 1) := by decide +kernel
theorem dL_law_277 : decode cL_law 277 = .ok (.aload_n 0, 1) := by decide +kernel
theorem dL_law_278 : decode cL_law 278 = .ok (.iload_n 3, 1) := by decide +kernel
theorem dL_law_279 : decode cL_law 279 = .ok (.iconst 2, 1) := by decide +kernel
theorem dL_law_280 : decode cL_law 280 = .ok (.iadd, 1) := by decide +kernel
theorem dL_law_281 : decode cL_law 281 = .ok (.iaload, 1) := by decide +kernel
theorem dL_law_282 : decode cL_law 282 = .ok (.aload_n 0, 1) := by decide +kernel
theorem dL_law_283 : decode cL_law 283 = .ok (.iload_n 3, 1) := by decide +kernel
theorem dL_law_284 : decode cL_law 284 = .ok (.iconst 3, 1) := by decide +kernel
theorem dL_law_285 : decode cL_law 285 = .ok (.iadd, 1) := by decide +kernel
theorem dL_law_286 : decode cL_law 286 = .ok (.iaload, 1) := by decide +kernel
theorem dL_law_287 : decode cL_law 287 = .ok (.invokevirtual 27, 3) := by decide +kernel
theorem dL_law_290 : decode cL_law 290 = .ok (.if_icmp .eq 707, 3) := by decide +kernel
theorem dL_law_293 : decode cL_law 293 = .ok (.iconst 0, 1) := by decide +kernel
theorem dL_law_294 : decode cL_law 294 = .ok (.ireturn, 1) := by decide +kernel
theorem dL_law_295 : decode cL_law 295 = .ok (.aload_n 1, 1) := by decide +kernel
theorem dL_law_296 : decode cL_law 296 = .ok (.aload_n 0, 1) := by decide +kernel
theorem dL_law_297 : decode cL_law 297 = .ok (.iload_n 3, 1) := by decide +kernel
theorem dL_law_298 : decode cL_law 298 = .ok (.iconst 1, 1) := by decide +kernel
theorem dL_law_299 : decode cL_law 299 = .ok (.iadd, 1) := by decide +kernel
theorem dL_law_300 : decode cL_law 300 = .ok (.iaload, 1) := by decide +kernel
theorem dL_law_301 : decode cL_law 301 = .ok (.aload_n 0, 1) := by decide +kernel
theorem dL_law_302 : decode cL_law 302 = .ok (.iload_n 3, 1) := by decide +kernel
theorem dL_law_303 : decode cL_law 303 = .ok (.iconst 2, 1) := by decide +kernel
theorem dL_law_304 : decode cL_law 304 = .ok (.iadd, 1) := by decide +kernel
theorem dL_law_305 : decode cL_law 305 = .ok (.iaload, 1) := by decide +kernel
theorem dL_law_306 : decode cL_law 306 = .ok (.invokevirtual 28, 3) := by decide +kernel
theorem dL_law_309 : decode cL_law 309 = .ok (.aload_n 2, 1) := by decide +kernel
theorem dL_law_310 : decode cL_law 310 = .ok (.aload_n 0, 1) := by decide +kernel
theorem dL_law_311 : decode cL_law 311 = .ok (.iload_n 3, 1) := by decide +kernel
theorem dL_law_312 : decode cL_law 312 = .ok (.iconst 1, 1) := by decide +kernel
theorem dL_law_313 : decode cL_law 313 = .ok (.iadd, 1) := by decide +kernel
theorem dL_law_314 : decode cL_law 314 = .ok (.iaload, 1) := by decide +kernel
theorem dL_law_315 : decode cL_law 315 = .ok (.aload_n 0, 1) := by decide +kernel
theorem dL_law_316 : decode cL_law 316 = .ok (.iload_n 3, 1) := by decide +kernel
theorem dL_law_317 : decode cL_law 317 = .ok (.iconst 2, 1) := by decide +kernel
theorem dL_law_318 : decode cL_law 318 = .ok (.iadd, 1) := by decide +kernel
theorem dL_law_319 : decode cL_law 319 = .ok (.iaload, 1) := by decide +kernel
theorem dL_law_320 : decode cL_law 320 = .ok (.invokevirtual 31, 3) := by decide +kernel
theorem dL_law_323 : decode cL_law 323 = .ok (.if_icmp .eq 674, 3) := by decide +kernel
theorem dL_law_326 : decode cL_law 326 = .ok (.iconst 0, 1) := by decide +kernel
theorem dL_law_327 : decode cL_law 327 = .ok (.ireturn, 1) := by decide +kernel
theorem dL_law_328 : decode cL_law 328 = .ok (.aload_n 1, 1) := by decide +kernel
theorem dL_law_329 : decode cL_law 329 = .ok (.aload_n 0, 1) := by decide +kernel
theorem dL_law_330 : decode cL_law 330 = .ok (.iload_n 3, 1) := by decide +kernel
theorem dL_law_331 : decode cL_law 331 = .ok (.iconst 1, 1) := by decide +kernel
theorem dL_law_332 : decode cL_law 332 = .ok (.iadd, 1) := by decide +kernel
theorem dL_law_333 : decode cL_law 333 = .ok (.iaload, 1) := by decide +kernel
theorem dL_law_334 : decode cL_law 334 = .ok (.aload_n 0, 1) := by decide +kernel
theorem dL_law_335 : decode cL_law 335 = .ok (.iload_n 3, 1) := by decide +kernel
theorem dL_law_336 : decode cL_law 336 = .ok (.iconst 2, 1) := by decide +kernel
theorem dL_law_337 : decode cL_law 337 = .ok (.iadd, 1) := by decide +kernel
theorem dL_law_338 : decode cL_law 338 = .ok (.iaload, 1) := by decide +kernel
theorem dL_law_339 : decode cL_law 339 = .ok (.aload_n 0, 1) := by decide +kernel
theorem dL_law_340 : decode cL_law 340 = .ok (.iload_n 3, 1) := by decide +kernel
theorem dL_law_341 : decode cL_law 341 = .ok (.iconst 3, 1) := by decide +kernel
theorem dL_law_342 : decode cL_law 342 = .ok (.iadd, 1) := by decide +kernel
theorem dL_law_343 : decode cL_law 343 = .ok (.iaload, 1) := by decide +kernel
theorem dL_law_344 : decode cL_law 344 = .ok (.invokevirtual 32, 3) := by decide +kernel
theorem dL_law_347 : decode cL_law 347 = .ok (.aload_n 2, 1) := by decide +kernel
theorem dL_law_348 : decode cL_law 348 = .ok (.aload_n 0, 1) := by decide +kernel
theorem dL_law_349 : decode cL_law 349 = .ok (.iload_n 3, 1) := by decide +kernel
theorem dL_law_350 : decode cL_law 350 = .ok (.iconst 1, 1) := by decide +kernel
theorem dL_law_351 : decode cL_law 351 = .ok (.iadd, 1) := by decide +kernel
theorem dL_law_352 : decode cL_law 352 = .ok (.iaload, 1) := by decide +kernel
theorem dL_law_353 : decode cL_law 353 = .ok (.aload_n 0, 1) := by decide +kernel
theorem dL_law_354 : decode cL_law 354 = .ok (.iload_n 3, 1) := by decide +kernel
theorem dL_law_355 : decode cL_law 355 = .ok (.iconst 2, 1) := by decide +kernel
theorem dL_law_356 : decode cL_law 356 = .ok (.iadd, 1) := by decide +kernel
theorem dL_law_357 : decode cL_law 357 = .ok (.iaload, 1) := by decide +kernel
theorem dL_law_358 : decode cL_law 358 = .ok (.aload_n 0, 1) := by decide +kernel
theorem dL_law_359 : decode cL_law 359 = .ok (.iload_n 3, 1) := by decide +kernel
theorem dL_law_360 : decode cL_law 360 = .ok (.iconst 3, 1) := by decide +kernel
theorem dL_law_361 : decode cL_law 361 = .ok (.iadd, 1) := by decide +kernel
theorem dL_law_362 : decode cL_law 362 = .ok (.iaload, 1) := by decide +kernel
theorem dL_law_363 : decode cL_law 363 = .ok (.invokevirtual 35, 3) := by decide +kernel
theorem dL_law_366 : decode cL_law 366 = .ok (.if_icmp .eq 631, 3) := by decide +kernel
theorem dL_law_369 : decode cL_law 369 = .ok (.iconst 0, 1) := by decide +kernel
theorem dL_law_370 : decode cL_law 370 = .ok (.ireturn, 1) := by decide +kernel
theorem dL_law_371 : decode cL_law 371 = .ok (.aload_n 1, 1) := by decide +kernel
theorem dL_law_372 : decode cL_law 372 = .ok (.aload_n 0, 1) := by decide +kernel
theorem dL_law_373 : decode cL_law 373 = .ok (.iload_n 3, 1) := by decide +kernel
theorem dL_law_374 : decode cL_law 374 = .ok (.iconst 1, 1) := by decide +kernel
theorem dL_law_375 : decode cL_law 375 = .ok (.iadd, 1) := by decide +kernel
theorem dL_law_376 : decode cL_law 376 = .ok (.iaload, 1) := by decide +kernel
theorem dL_law_377 : decode cL_law 377 = .ok (.invokevirtual 36, 3) := by decide +kernel
theorem dL_law_380 : decode cL_law 380 = .ok (.aload_n 2, 1) := by decide +kernel
theorem dL_law_381 : decode cL_law 381 = .ok (.aload_n 0, 1) := by decide +kernel
theorem dL_law_382 : decode cL_law 382 = .ok (.iload_n 3, 1) := by decide +kernel
theorem dL_law_383 : decode cL_law 383 = .ok (.iconst 1, 1) := by decide +kernel
theorem dL_law_384 : decode cL_law 384 = .ok (.iadd, 1) := by decide +kernel
theorem dL_law_385 : decode cL_law 385 = .ok (.iaload, 1) := by decide +kernel
theorem dL_law_386 : decode cL_law 386 = .ok (.invokevirtual 40, 3) := by decide +kernel
theorem dL_law_389 : decode cL_law 389 = .ok (.if_icmp .eq 608, 3) := by decide +kernel
theorem dL_law_392 : decode cL_law 392 = .ok (.iconst 0, 1) := by decide +kernel
theorem dL_law_393 : decode cL_law 393 = .ok (.ireturn, 1) := by decide +kernel
theorem dL_law_394 : decode cL_law 394 = .ok (.aload_n 1, 1) := by decide +kernel
theorem dL_law_395 : decode cL_law 395 = .ok (.aload_n 0, 1) := by decide +kernel
theorem dL_law_396 : decode cL_law 396 = .ok (.iload_n 3, 1) := by decide +kernel
theorem dL_law_397 : decode cL_law 397 = .ok (.iconst 1, 1) := by decide +kernel
theorem dL_law_398 : decode cL_law 398 = .ok (.iadd, 1) := by decide +kernel
theorem dL_law_399 : decode cL_law 399 = .ok (.iaload, 1) := by decide +kernel
theorem dL_law_400 : decode cL_law 400 = .ok (.invokevirtual 41, 3) := by decide +kernel
theorem dL_law_403 : decode cL_law 403 = .ok (.aload_n 2, 1) := by decide +kernel
theorem dL_law_404 : decode cL_law 404 = .ok (.aload_n 0, 1) := by decide +kernel
theorem dL_law_405 : decode cL_law 405 = .ok (.iload_n 3, 1) := by decide +kernel
theorem dL_law_406 : decode cL_law 406 = .ok (.iconst 1, 1) := by decide +kernel
theorem dL_law_407 : decode cL_law 407 = .ok (.iadd, 1) := by decide +kernel
theorem dL_law_408 : decode cL_law 408 = .ok (.iaload, 1) := by decide +kernel
theorem dL_law_409 : decode cL_law 409 = .ok (.invokevirtual 44, 3) := by decide +kernel
theorem dL_law_412 : decode cL_law 412 = .ok (.if_icmp .eq 585, 3) := by decide +kernel
theorem dL_law_415 : decode cL_law 415 = .ok (.iconst 0, 1) := by decide +kernel
theorem dL_law_416 : decode cL_law 416 = .ok (.ireturn, 1) := by decide +kernel
theorem dL_law_417 : decode cL_law 417 = .ok (.aload_n 1, 1) := by decide +kernel
theorem dL_law_418 : decode cL_law 418 = .ok (.invokevirtual 45, 3) := by decide +kernel
theorem dL_law_421 : decode cL_law 421 = .ok (.aload_n 2, 1) := by decide +kernel
theorem dL_law_422 : decode cL_law 422 = .ok (.invokevirtual 49, 3) := by decide +kernel
theorem dL_law_425 : decode cL_law 425 = .ok (.if_icmp .eq 572, 3) := by decide +kernel
theorem dL_law_428 : decode cL_law 428 = .ok (.iconst 0, 1) := by decide +kernel
theorem dL_law_429 : decode cL_law 429 = .ok (.ireturn, 1) := by decide +kernel
theorem dL_law_430 : decode cL_law 430 = .ok (.aload_n 1, 1) := by decide +kernel
theorem dL_law_431 : decode cL_law 431 = .ok (.invokevirtual 50, 3) := by decide +kernel
theorem dL_law_434 : decode cL_law 434 = .ok (.aload_n 2, 1) := by decide +kernel
theorem dL_law_435 : decode cL_law 435 = .ok (.invokevirtual 53, 3) := by decide +kernel
theorem dL_law_438 : decode cL_law 438 = .ok (.if_icmp .eq 559, 3) := by decide +kernel
theorem dL_law_441 : decode cL_law 441 = .ok (.iconst 0, 1) := by decide +kernel
theorem dL_law_442 : decode cL_law 442 = .ok (.ireturn, 1) := by decide +kernel
theorem dL_law_443 : decode cL_law 443 = .ok (.aload_n 1, 1) := by decide +kernel
theorem dL_law_444 : decode cL_law 444 = .ok (.aload_n 0, 1) := by decide +kernel
theorem dL_law_445 : decode cL_law 445 = .ok (.iload_n 3, 1) := by decide +kernel
theorem dL_law_446 : decode cL_law 446 = .ok (.iconst 1, 1) := by decide +kernel
theorem dL_law_447 : decode cL_law 447 = .ok (.iadd, 1) := by decide +kernel
theorem dL_law_448 : decode cL_law 448 = .ok (.iaload, 1) := by decide +kernel
theorem dL_law_449 : decode cL_law 449 = .ok (.aload_n 0, 1) := by decide +kernel
theorem dL_law_450 : decode cL_law 450 = .ok (.iload_n 3, 1) := by decide +kernel
theorem dL_law_451 : decode cL_law 451 = .ok (.iconst 2, 1) := by decide +kernel
theorem dL_law_452 : decode cL_law 452 = .ok (.iadd, 1) := by decide +kernel
theorem dL_law_453 : decode cL_law 453 = .ok (.iaload, 1) := by decide +kernel
theorem dL_law_454 : decode cL_law 454 = .ok (.aload_n 0, 1) := by decide +kernel
theorem dL_law_455 : decode cL_law 455 = .ok (.iload_n 3, 1) := by decide +kernel
theorem dL_law_456 : decode cL_law 456 = .ok (.iconst 3, 1) := by decide +kernel
theorem dL_law_457 : decode cL_law 457 = .ok (.iadd, 1) := by decide +kernel
theorem dL_law_458 : decode cL_law 458 = .ok (.iaload, 1) := by decide +kernel
theorem dL_law_459 : decode cL_law 459 = .ok (.invokevirtual 54, 3) := by decide +kernel
theorem dL_law_462 : decode cL_law 462 = .ok (.aload_n 2, 1) := by decide +kernel
theorem dL_law_463 : decode cL_law 463 = .ok (.aload_n 0, 1) := by decide +kernel
theorem dL_law_464 : decode cL_law 464 = .ok (.iload_n 3, 1) := by decide +kernel
theorem dL_law_465 : decode cL_law 465 = .ok (.iconst 1, 1) := by decide +kernel
theorem dL_law_466 : decode cL_law 466 = .ok (.iadd, 1) := by decide +kernel
theorem dL_law_467 : decode cL_law 467 = .ok (.iaload, 1) := by decide +kernel
theorem dL_law_468 : decode cL_law 468 = .ok (.aload_n 0, 1) := by decide +kernel
theorem dL_law_469 : decode cL_law 469 = .ok (.iload_n 3, 1) := by decide +kernel
theorem dL_law_470 : decode cL_law 470 = .ok (.iconst 2, 1) := by decide +kernel
theorem dL_law_471 : decode cL_law 471 = .ok (.iadd, 1) := by decide +kernel
theorem dL_law_472 : decode cL_law 472 = .ok (.iaload, 1) := by decide +kernel
theorem dL_law_473 : decode cL_law 473 = .ok (.aload_n 0, 1) := by decide +kernel
theorem dL_law_474 : decode cL_law 474 = .ok (.iload_n 3, 1) := by decide +kernel
theorem dL_law_475 : decode cL_law 475 = .ok (.iconst 3, 1) := by decide +kernel
theorem dL_law_476 : decode cL_law 476 = .ok (.iadd, 1) := by decide +kernel
theorem dL_law_477 : decode cL_law 477 = .ok (.iaload, 1) := by decide +kernel
theorem dL_law_478 : decode cL_law 478 = .ok (.invokevirtual 57, 3) := by decide +kernel
theorem dL_law_481 : decode cL_law 481 = .ok (.if_icmp .eq 516, 3) := by decide +kernel
theorem dL_law_484 : decode cL_law 484 = .ok (.iconst 0, 1) := by decide +kernel
theorem dL_law_485 : decode cL_law 485 = .ok (.ireturn, 1) := by decide +kernel
theorem dL_law_486 : decode cL_law 486 = .ok (.aload_n 1, 1) := by decide +kernel
theorem dL_law_487 : decode cL_law 487 = .ok (.invokevirtual 58, 3) := by decide +kernel
theorem dL_law_490 : decode cL_law 490 = .ok (.aload_n 2, 1) := by decide +kernel
theorem dL_law_491 : decode cL_law 491 = .ok (.invokevirtual 61, 3) := by decide +kernel
theorem dL_law_494 : decode cL_law 494 = .ok (.if_icmp .eq 503, 3) := by decide +kernel
theorem dL_law_497 : decode cL_law 497 = .ok (.iconst 0, 1) := by decide +kernel
theorem dL_law_498 : decode cL_law 498 = .ok (.ireturn, 1) := by decide +kernel
theorem dL_law_499 : decode cL_law 499 = .ok (.aload_n 1, 1) := by decide +kernel
theorem dL_law_500 : decode cL_law 500 = .ok (.aload_n 0, 1) := by decide +kernel
theorem dL_law_501 : decode cL_law 501 = .ok (.iload_n 3, 1) := by decide +kernel
theorem dL_law_502 : decode cL_law 502 = .ok (.iconst 1, 1) := by decide +kernel
theorem dL_law_503 : decode cL_law 503 = .ok (.iadd, 1) := by decide +kernel
theorem dL_law_504 : decode cL_law 504 = .ok (.iaload, 1) := by decide +kernel
theorem dL_law_505 : decode cL_law 505 = .ok (.invokevirtual 62, 3) := by decide +kernel
theorem dL_law_508 : decode cL_law 508 = .ok (.aload_n 2, 1) := by decide +kernel
theorem dL_law_509 : decode cL_law 509 = .ok (.aload_n 0, 1) := by decide +kernel
theorem dL_law_510 : decode cL_law 510 = .ok (.iload_n 3, 1) := by decide +kernel
theorem dL_law_511 : decode cL_law 511 = .ok (.iconst 1, 1) := by decide +kernel
theorem dL_law_512 : decode cL_law 512 = .ok (.iadd, 1) := by decide +kernel
theorem dL_law_513 : decode cL_law 513 = .ok (.iaload, 1) := by decide +kernel
theorem dL_law_514 : decode cL_law 514 = .ok (.invokevirtual 65, 3) := by decide +kernel
theorem dL_law_517 : decode cL_law 517 = .ok (.if_icmp .eq 480, 3) := by decide +kernel
theorem dL_law_520 : decode cL_law 520 = .ok (.iconst 0, 1) := by decide +kernel
theorem dL_law_521 : decode cL_law 521 = .ok (.ireturn, 1) := by decide +kernel
theorem dL_law_522 : decode cL_law 522 = .ok (.aload_n 1, 1) := by decide +kernel
theorem dL_law_523 : decode cL_law 523 = .ok (.aload_n 0, 1) := by decide +kernel
theorem dL_law_524 : decode cL_law 524 = .ok (.iload_n 3, 1) := by decide +kernel
theorem dL_law_525 : decode cL_law 525 = .ok (.iconst 1, 1) := by decide +kernel
theorem dL_law_526 : decode cL_law 526 = .ok (.iadd, 1) := by decide +kernel
theorem dL_law_527 : decode cL_law 527 = .ok (.iaload, 1) := by decide +kernel
theorem dL_law_528 : decode cL_law 528 = .ok (.aload_n 0, 1) := by decide +kernel
theorem dL_law_529 : decode cL_law 529 = .ok (.iload_n 3, 1) := by decide +kernel
theorem dL_law_530 : decode cL_law 530 = .ok (.iconst 2, 1) := by decide +kernel
theorem dL_law_531 : decode cL_law 531 = .ok (.iadd, 1) := by decide +kernel
theorem dL_law_532 : decode cL_law 532 = .ok (.iaload, 1) := by decide +kernel
theorem dL_law_533 : decode cL_law 533 = .ok (.aload_n 0, 1) := by decide +kernel
theorem dL_law_534 : decode cL_law 534 = .ok (.iload_n 3, 1) := by decide +kernel
theorem dL_law_535 : decode cL_law 535 = .ok (.iconst 3, 1) := by decide +kernel
theorem dL_law_536 : decode cL_law 536 = .ok (.iadd, 1) := by decide +kernel
theorem dL_law_537 : decode cL_law 537 = .ok (.iaload, 1) := by decide +kernel
theorem dL_law_538 : decode cL_law 538 = .ok (.aload_n 0, 1) := by decide +kernel
theorem dL_law_539 : decode cL_law 539 = .ok (.iload_n 3, 1) := by decide +kernel
theorem dL_law_540 : decode cL_law 540 = .ok (.iconst 4, 1) := by decide +kernel
theorem dL_law_541 : decode cL_law 541 = .ok (.iadd, 1) := by decide +kernel
theorem dL_law_542 : decode cL_law 542 = .ok (.iaload, 1) := by decide +kernel
theorem dL_law_543 : decode cL_law 543 = .ok (.invokevirtual 66, 3) := by decide +kernel
theorem dL_law_546 : decode cL_law 546 = .ok (.aload_n 2, 1) := by decide +kernel
theorem dL_law_547 : decode cL_law 547 = .ok (.aload_n 0, 1) := by decide +kernel
theorem dL_law_548 : decode cL_law 548 = .ok (.iload_n 3, 1) := by decide +kernel
theorem dL_law_549 : decode cL_law 549 = .ok (.iconst 1, 1) := by decide +kernel
theorem dL_law_550 : decode cL_law 550 = .ok (.iadd, 1) := by decide +kernel
theorem dL_law_551 : decode cL_law 551 = .ok (.iaload, 1) := by decide +kernel
theorem dL_law_552 : decode cL_law 552 = .ok (.aload_n 0, 1) := by decide +kernel
theorem dL_law_553 : decode cL_law 553 = .ok (.iload_n 3, 1) := by decide +kernel
theorem dL_law_554 : decode cL_law 554 = .ok (.iconst 2, 1) := by decide +kernel
theorem dL_law_555 : decode cL_law 555 = .ok (.iadd, 1) := by decide +kernel
theorem dL_law_556 : decode cL_law 556 = .ok (.iaload, 1) := by decide +kernel
theorem dL_law_557 : decode cL_law 557 = .ok (.aload_n 0, 1) := by decide +kernel
theorem dL_law_558 : decode cL_law 558 = .ok (.iload_n 3, 1) := by decide +kernel
theorem dL_law_559 : decode cL_law 559 = .ok (.iconst 3, 1) := by decide +kernel
theorem dL_law_560 : decode cL_law 560 = .ok (.iadd, 1) := by decide +kernel
theorem dL_law_561 : decode cL_law 561 = .ok (.iaload, 1) := by decide +kernel
theorem dL_law_562 : decode cL_law 562 = .ok (.aload_n 0, 1) := by decide +kernel
theorem dL_law_563 : decode cL_law 563 = .ok (.iload_n 3, 1) := by decide +kernel
theorem dL_law_564 : decode cL_law 564 = .ok (.iconst 4, 1) := by decide +kernel
theorem dL_law_565 : decode cL_law 565 = .ok (.iadd, 1) := by decide +kernel
theorem dL_law_566 : decode cL_law 566 = .ok (.iaload, 1) := by decide +kernel
theorem dL_law_567 : decode cL_law 567 = .ok (.invokevirtual 70, 3) := by decide +kernel
theorem dL_law_570 : decode cL_law 570 = .ok (.if_icmp .eq 427, 3) := by decide +kernel
theorem dL_law_573 : decode cL_law 573 = .ok (.iconst 0, 1) := by decide +kernel
theorem dL_law_574 : decode cL_law 574 = .ok (.ireturn, 1) := by decide +kernel
theorem dL_law_575 : decode cL_law 575 = .ok (.aload_n 1, 1) := by decide +kernel
theorem dL_law_576 : decode cL_law 576 = .ok (.aload_n 0, 1) := by decide +kernel
theorem dL_law_577 : decode cL_law 577 = .ok (.iload_n 3, 1) := by decide +kernel
theorem dL_law_578 : decode cL_law 578 = .ok (.iconst 1, 1) := by decide +kernel
theorem dL_law_579 : decode cL_law 579 = .ok (.iadd, 1) := by decide +kernel
theorem dL_law_580 : decode cL_law 580 = .ok (.iaload, 1) := by decide +kernel
theorem dL_law_581 : decode cL_law 581 = .ok (.invokevirtual 71, 3) := by decide +kernel
theorem dL_law_584 : decode cL_law 584 = .ok (.aload_n 2, 1) := by decide +kernel
theorem dL_law_585 : decode cL_law 585 = .ok (.aload_n 0, 1) := by decide +kernel
theorem dL_law_586 : decode cL_law 586 = .ok (.iload_n 3, 1) := by decide +kernel
theorem dL_law_587 : decode cL_law 587 = .ok (.iconst 1, 1) := by decide +kernel
theorem dL_law_588 : decode cL_law 588 = .ok (.iadd, 1) := by decide +kernel
theorem dL_law_589 : decode cL_law 589 = .ok (.iaload, 1) := by decide +kernel
theorem dL_law_590 : decode cL_law 590 = .ok (.invokevirtual 74, 3) := by decide +kernel
theorem dL_law_593 : decode cL_law 593 = .ok (.if_icmp .eq 404, 3) := by decide +kernel
theorem dL_law_596 : decode cL_law 596 = .ok (.iconst 0, 1) := by decide +kernel
theorem dL_law_597 : decode cL_law 597 = .ok (.ireturn, 1) := by decide +kernel
theorem dL_law_598 : decode cL_law 598 = .ok (.aload_n 1, 1) := by decide +kernel
theorem dL_law_599 : decode cL_law 599 = .ok (.aload_n 0, 1) := by decide +kernel
theorem dL_law_600 : decode cL_law 600 = .ok (.iload_n 3, 1) := by decide +kernel
theorem dL_law_601 : decode cL_law 601 = .ok (.iconst 1, 1) := by decide +kernel
theorem dL_law_602 : decode cL_law 602 = .ok (.iadd, 1) := by decide +kernel
theorem dL_law_603 : decode cL_law 603 = .ok (.iaload, 1) := by decide +kernel
theorem dL_law_604 : decode cL_law 604 = .ok (.aload_n 0, 1) := by decide +kernel
theorem dL_law_605 : decode cL_law 605 = .ok (.iload_n 3, 1) := by decide +kernel
theorem dL_law_606 : decode cL_law 606 = .ok (.iconst 2, 1) := by decide +kernel
theorem dL_law_607 : decode cL_law 607 = .ok (.iadd, 1) := by decide +kernel
theorem dL_law_608 : decode cL_law 608 = .ok (.iaload, 1) := by decide +kernel
theorem dL_law_609 : decode cL_law 609 = .ok (.invokevirtual 75, 3) := by decide +kernel
theorem dL_law_612 : decode cL_law 612 = .ok (.aload_n 2, 1) := by decide +kernel
theorem dL_law_613 : decode cL_law 613 = .ok (.aload_n 0, 1) := by decide +kernel
theorem dL_law_614 : decode cL_law 614 = .ok (.iload_n 3, 1) := by decide +kernel
theorem dL_law_615 : decode cL_law 615 = .ok (.iconst 1, 1) := by decide +kernel
theorem dL_law_616 : decode cL_law 616 = .ok (.iadd, 1) := by decide +kernel
theorem dL_law_617 : decode cL_law 617 = .ok (.iaload, 1) := by decide +kernel
theorem dL_law_618 : decode cL_law 618 = .ok (.aload_n 0, 1) := by decide +kernel
theorem dL_law_619 : decode cL_law 619 = .ok (.iload_n 3, 1) := by decide +kernel
theorem dL_law_620 : decode cL_law 620 = .ok (.iconst 2, 1) := by decide +kernel
theorem dL_law_621 : decode cL_law 621 = .ok (.iadd, 1) := by decide +kernel
theorem dL_law_622 : decode cL_law 622 = .ok (.iaload, 1) := by decide +kernel
theorem dL_law_623 : decode cL_law 623 = .ok (.invokevirtual 78, 3) := by decide +kernel
theorem dL_law_626 : decode cL_law 626 = .ok (.if_icmp .eq 371, 3) := by decide +kernel
theorem dL_law_629 : decode cL_law 629 = .ok (.iconst 0, 1) := by decide +kernel
theorem dL_law_630 : decode cL_law 630 = .ok (.ireturn, 1) := by decide +kernel
theorem dL_law_631 : decode cL_law 631 = .ok (.aload_n 1, 1) := by decide +kernel
theorem dL_law_632 : decode cL_law 632 = .ok (.invokevirtual 79, 3) := by decide +kernel
theorem dL_law_635 : decode cL_law 635 = .ok (.aload_n 2, 1) := by decide +kernel
theorem dL_law_636 : decode cL_law 636 = .ok (.invokevirtual 82, 3) := by decide +kernel
theorem dL_law_639 : decode cL_law 639 = .ok (.if_icmp .eq 358, 3) := by decide +kernel
theorem dL_law_642 : decode cL_law 642 = .ok (.iconst 0, 1) := by decide +kernel
theorem dL_law_643 : decode cL_law 643 = .ok (.ireturn, 1) := by decide +kernel
theorem dL_law_644 : decode cL_law 644 = .ok (.aload_n 1, 1) := by decide +kernel
theorem dL_law_645 : decode cL_law 645 = .ok (.aload_n 0, 1) := by decide +kernel
theorem dL_law_646 : decode cL_law 646 = .ok (.iload_n 3, 1) := by decide +kernel
theorem dL_law_647 : decode cL_law 647 = .ok (.iconst 1, 1) := by decide +kernel
theorem dL_law_648 : decode cL_law 648 = .ok (.iadd, 1) := by decide +kernel
theorem dL_law_649 : decode cL_law 649 = .ok (.iaload, 1) := by decide +kernel
theorem dL_law_650 : decode cL_law 650 = .ok (.invokevirtual 83, 3) := by decide +kernel
theorem dL_law_653 : decode cL_law 653 = .ok (.aload_n 2, 1) := by decide +kernel
theorem dL_law_654 : decode cL_law 654 = .ok (.aload_n 0, 1) := by decide +kernel
theorem dL_law_655 : decode cL_law 655 = .ok (.iload_n 3, 1) := by decide +kernel
theorem dL_law_656 : decode cL_law 656 = .ok (.iconst 1, 1) := by decide +kernel
theorem dL_law_657 : decode cL_law 657 = .ok (.iadd, 1) := by decide +kernel
theorem dL_law_658 : decode cL_law 658 = .ok (.iaload, 1) := by decide +kernel
theorem dL_law_659 : decode cL_law 659 = .ok (.invokevirtual 86, 3) := by decide +kernel
theorem dL_law_662 : decode cL_law 662 = .ok (.if_icmp .eq 335, 3) := by decide +kernel
theorem dL_law_665 : decode cL_law 665 = .ok (.iconst 0, 1) := by decide +kernel
theorem dL_law_666 : decode cL_law 666 = .ok (.ireturn, 1) := by decide +kernel
theorem dL_law_667 : decode cL_law 667 = .ok (.aload_n 1, 1) := by decide +kernel
theorem dL_law_668 : decode cL_law 668 = .ok (.aload_n 0, 1) := by decide +kernel
theorem dL_law_669 : decode cL_law 669 = .ok (.iload_n 3, 1) := by decide +kernel
theorem dL_law_670 : decode cL_law 670 = .ok (.iconst 1, 1) := by decide +kernel
theorem dL_law_671 : decode cL_law 671 = .ok (.iadd, 1) := by decide +kernel
theorem dL_law_672 : decode cL_law 672 = .ok (.iaload, 1) := by decide +kernel
theorem dL_law_673 : decode cL_law 673 = .ok (.aload_n 0, 1) := by decide +kernel
theorem dL_law_674 : decode cL_law 674 = .ok (.iload_n 3, 1) := by decide +kernel
theorem dL_law_675 : decode cL_law 675 = .ok (.iconst 2, 1) := by decide +kernel
theorem dL_law_676 : decode cL_law 676 = .ok (.iadd, 1) := by decide +kernel
theorem dL_law_677 : decode cL_law 677 = .ok (.iaload, 1) := by decide +kernel
theorem dL_law_678 : decode cL_law 678 = .ok (.invokevirtual 87, 3) := by decide +kernel
theorem dL_law_681 : decode cL_law 681 = .ok (.aload_n 2, 1) := by decide +kernel
theorem dL_law_682 : decode cL_law 682 = .ok (.aload_n 0, 1) := by decide +kernel
theorem dL_law_683 : decode cL_law 683 = .ok (.iload_n 3, 1) := by decide +kernel
theorem dL_law_684 : decode cL_law 684 = .ok (.iconst 1, 1) := by decide +kernel
theorem dL_law_685 : decode cL_law 685 = .ok (.iadd, 1) := by decide +kernel
theorem dL_law_686 : decode cL_law 686 = .ok (.iaload, 1) := by decide +kernel
theorem dL_law_687 : decode cL_law 687 = .ok (.aload_n 0, 1) := by decide +kernel
theorem dL_law_688 : decode cL_law 688 = .ok (.iload_n 3, 1) := by decide +kernel
theorem dL_law_689 : decode cL_law 689 = .ok (.iconst 2, 1) := by decide +kernel
theorem dL_law_690 : decode cL_law 690 = .ok (.iadd, 1) := by decide +kernel
theorem dL_law_691 : decode cL_law 691 = .ok (.iaload, 1) := by decide +kernel
theorem dL_law_692 : decode cL_law 692 = .ok (.invokevirtual 90, 3) := by decide +kernel
theorem dL_law_695 : decode cL_law 695 = .ok (.if_icmp .eq 302, 3) := by decide +kernel
theorem dL_law_698 : decode cL_law 698 = .ok (.iconst 0, 1) := by decide +kernel
theorem dL_law_699 : decode cL_law 699 = .ok (.ireturn, 1) := by decide +kernel
theorem dL_law_700 : decode cL_law 700 = .ok (.aload_n 1, 1) := by decide +kernel
theorem dL_law_701 : decode cL_law 701 = .ok (.aload_n 0, 1) := by decide +kernel
theorem dL_law_702 : decode cL_law 702 = .ok (.iload_n 3, 1) := by decide +kernel
theorem dL_law_703 : decode cL_law 703 = .ok (.iconst 1, 1) := by decide +kernel
theorem dL_law_704 : decode cL_law 704 = .ok (.iadd, 1) := by decide +kernel
theorem dL_law_705 : decode cL_law 705 = .ok (.iaload, 1) := by decide +kernel
theorem dL_law_706 : decode cL_law 706 = .ok (.aload_n 0, 1) := by decide +kernel
theorem dL_law_707 : decode cL_law 707 = .ok (.iload_n 3, 1) := by decide +kernel
theorem dL_law_708 : decode cL_law 708 = .ok (.iconst 2, 1) := by decide +kernel
theorem dL_law_709 : decode cL_law 709 = .ok (.iadd, 1) := by decide +kernel
theorem dL_law_710 : decode cL_law 710 = .ok (.iaload, 1) := by decide +kernel
theorem dL_law_711 : decode cL_law 711 = .ok (.aload_n 0, 1) := by decide +kernel
theorem dL_law_712 : decode cL_law 712 = .ok (.iload_n 3, 1) := by decide +kernel
theorem dL_law_713 : decode cL_law 713 = .ok (.iconst 3, 1) := by decide +kernel
theorem dL_law_714 : decode cL_law 714 = .ok (.iadd, 1) := by decide +kernel
theorem dL_law_715 : decode cL_law 715 = .ok (.iaload, 1) := by decide +kernel
theorem dL_law_716 : decode cL_law 716 = .ok (.invokevirtual 91, 3) := by decide +kernel
theorem dL_law_719 : decode cL_law 719 = .ok (.aload_n 2, 1) := by decide +kernel
theorem dL_law_720 : decode cL_law 720 = .ok (.aload_n 0, 1) := by decide +kernel
theorem dL_law_721 : decode cL_law 721 = .ok (.iload_n 3, 1) := by decide +kernel
theorem dL_law_722 : decode cL_law 722 = .ok (.iconst 1, 1) := by decide +kernel
theorem dL_law_723 : decode cL_law 723 = .ok (.iadd, 1) := by decide +kernel
theorem dL_law_724 : decode cL_law 724 = .ok (.iaload, 1) := by decide +kernel
theorem dL_law_725 : decode cL_law 725 = .ok (.aload_n 0, 1) := by decide +kernel
theorem dL_law_726 : decode cL_law 726 = .ok (.iload_n 3, 1) := by decide +kernel
theorem dL_law_727 : decode cL_law 727 = .ok (.iconst 2, 1) := by decide +kernel
theorem dL_law_728 : decode cL_law 728 = .ok (.iadd, 1) := by decide +kernel
theorem dL_law_729 : decode cL_law 729 = .ok (.iaload, 1) := by decide +kernel
theorem dL_law_730 : decode cL_law 730 = .ok (.aload_n 0, 1) := by decide +kernel
theorem dL_law_731 : decode cL_law 731 = .ok (.iload_n 3, 1) := by decide +kernel
theorem dL_law_732 : decode cL_law 732 = .ok (.iconst 3, 1) := by decide +kernel
theorem dL_law_733 : decode cL_law 733 = .ok (.iadd, 1) := by decide +kernel
theorem dL_law_734 : decode cL_law 734 = .ok (.iaload, 1) := by decide +kernel
theorem dL_law_735 : decode cL_law 735 = .ok (.invokevirtual 94, 3) := by decide +kernel
theorem dL_law_738 : decode cL_law 738 = .ok (.if_icmp .eq 259, 3) := by decide +kernel
theorem dL_law_741 : decode cL_law 741 = .ok (.iconst 0, 1) := by decide +kernel
theorem dL_law_742 : decode cL_law 742 = .ok (.ireturn, 1) := by decide +kernel
theorem dL_law_743 : decode cL_law 743 = .ok (.aload_n 1, 1) := by decide +kernel
theorem dL_law_744 : decode cL_law 744 = .ok (.aload_n 0, 1) := by decide +kernel
theorem dL_law_745 : decode cL_law 745 = .ok (.iload_n 3, 1) := by decide +kernel
theorem dL_law_746 : decode cL_law 746 = .ok (.iconst 1, 1) := by decide +kernel
theorem dL_law_747 : decode cL_law 747 = .ok (.iadd, 1) := by decide +kernel
theorem dL_law_748 : decode cL_law 748 = .ok (.iaload, 1) := by decide +kernel
theorem dL_law_749 : decode cL_law 749 = .ok (.aload_n 0, 1) := by decide +kernel
theorem dL_law_750 : decode cL_law 750 = .ok (.iload_n 3, 1) := by decide +kernel
theorem dL_law_751 : decode cL_law 751 = .ok (.iconst 2, 1) := by decide +kernel
theorem dL_law_752 : decode cL_law 752 = .ok (.iadd, 1) := by decide +kernel
theorem dL_law_753 : decode cL_law 753 = .ok (.iaload, 1) := by decide +kernel
theorem dL_law_754 : decode cL_law 754 = .ok (.invokevirtual 95, 3) := by decide +kernel
theorem dL_law_757 : decode cL_law 757 = .ok (.aload_n 2, 1) := by decide +kernel
theorem dL_law_758 : decode cL_law 758 = .ok (.aload_n 0, 1) := by decide +kernel
theorem dL_law_759 : decode cL_law 759 = .ok (.iload_n 3, 1) := by decide +kernel
theorem dL_law_760 : decode cL_law 760 = .ok (.iconst 1, 1) := by decide +kernel
theorem dL_law_761 : decode cL_law 761 = .ok (.iadd, 1) := by decide +kernel
theorem dL_law_762 : decode cL_law 762 = .ok (.iaload, 1) := by decide +kernel
theorem dL_law_763 : decode cL_law 763 = .ok (.aload_n 0, 1) := by decide +kernel
theorem dL_law_764 : decode cL_law 764 = .ok (.iload_n 3, 1) := by decide +kernel
theorem dL_law_765 : decode cL_law 765 = .ok (.iconst 2, 1) := by decide +kernel
theorem dL_law_766 : decode cL_law 766 = .ok (.iadd, 1) := by decide +kernel
theorem dL_law_767 : decode cL_law 767 = .ok (.iaload, 1) := by decide +kernel
theorem dL_law_768 : decode cL_law 768 = .ok (.invokevirtual 98, 3) := by decide +kernel
theorem dL_law_771 : decode cL_law 771 = .ok (.if_icmp .eq 226, 3) := by decide +kernel
theorem dL_law_774 : decode cL_law 774 = .ok (.iconst 0, 1) := by decide +kernel
theorem dL_law_775 : decode cL_law 775 = .ok (.ireturn, 1) := by decide +kernel
theorem dL_law_776 : decode cL_law 776 = .ok (.aload_n 1, 1) := by decide +kernel
theorem dL_law_777 : decode cL_law 777 = .ok (.aload_n 0, 1) := by decide +kernel
theorem dL_law_778 : decode cL_law 778 = .ok (.iload_n 3, 1) := by decide +kernel
theorem dL_law_779 : decode cL_law 779 = .ok (.iconst 1, 1) := by decide +kernel
theorem dL_law_780 : decode cL_law 780 = .ok (.iadd, 1) := by decide +kernel
theorem dL_law_781 : decode cL_law 781 = .ok (.iaload, 1) := by decide +kernel
theorem dL_law_782 : decode cL_law 782 = .ok (.aload_n 0, 1) := by decide +kernel
theorem dL_law_783 : decode cL_law 783 = .ok (.iload_n 3, 1) := by decide +kernel
theorem dL_law_784 : decode cL_law 784 = .ok (.iconst 2, 1) := by decide +kernel
theorem dL_law_785 : decode cL_law 785 = .ok (.iadd, 1) := by decide +kernel
theorem dL_law_786 : decode cL_law 786 = .ok (.iaload, 1) := by decide +kernel
theorem dL_law_787 : decode cL_law 787 = .ok (.invokevirtual 99, 3) := by decide +kernel
theorem dL_law_790 : decode cL_law 790 = .ok (.aload_n 2, 1) := by decide +kernel
theorem dL_law_791 : decode cL_law 791 = .ok (.aload_n 0, 1) := by decide +kernel
theorem dL_law_792 : decode cL_law 792 = .ok (.iload_n 3, 1) := by decide +kernel
theorem dL_law_793 : decode cL_law 793 = .ok (.iconst 1, 1) := by decide +kernel
theorem dL_law_794 : decode cL_law 794 = .ok (.iadd, 1) := by decide +kernel
theorem dL_law_795 : decode cL_law 795 = .ok (.iaload, 1) := by decide +kernel
theorem dL_law_796 : decode cL_law 796 = .ok (.aload_n 0, 1) := by decide +kernel
theorem dL_law_797 : decode cL_law 797 = .ok (.iload_n 3, 1) := by decide +kernel
theorem dL_law_798 : decode cL_law 798 = .ok (.iconst 2, 1) := by decide +kernel
theorem dL_law_799 : decode cL_law 799 = .ok (.iadd, 1) := by decide +kernel
theorem dL_law_800 : decode cL_law 800 = .ok (.iaload, 1) := by decide +kernel
theorem dL_law_801 : decode cL_law 801 = .ok (.invokevirtual 102, 3) := by decide +kernel
theorem dL_law_804 : decode cL_law 804 = .ok (.if_icmp .eq 193, 3) := by decide +kernel
theorem dL_law_807 : decode cL_law 807 = .ok (.iconst 0, 1) := by decide +kernel
theorem dL_law_808 : decode cL_law 808 = .ok (.ireturn, 1) := by decide +kernel
theorem dL_law_809 : decode cL_law 809 = .ok (.aload_n 1, 1) := by decide +kernel
theorem dL_law_810 : decode cL_law 810 = .ok (.aload_n 0, 1) := by decide +kernel
theorem dL_law_811 : decode cL_law 811 = .ok (.iload_n 3, 1) := by decide +kernel
theorem dL_law_812 : decode cL_law 812 = .ok (.iconst 1, 1) := by decide +kernel
theorem dL_law_813 : decode cL_law 813 = .ok (.iadd, 1) := by decide +kernel
theorem dL_law_814 : decode cL_law 814 = .ok (.iaload, 1) := by decide +kernel
theorem dL_law_815 : decode cL_law 815 = .ok (.invokevirtual 103, 3) := by decide +kernel
theorem dL_law_818 : decode cL_law 818 = .ok (.aload_n 2, 1) := by decide +kernel
theorem dL_law_819 : decode cL_law 819 = .ok (.aload_n 0, 1) := by decide +kernel
theorem dL_law_820 : decode cL_law 820 = .ok (.iload_n 3, 1) := by decide +kernel
theorem dL_law_821 : decode cL_law 821 = .ok (.iconst 1, 1) := by decide +kernel
theorem dL_law_822 : decode cL_law 822 = .ok (.iadd, 1) := by decide +kernel
theorem dL_law_823 : decode cL_law 823 = .ok (.iaload, 1) := by decide +kernel
theorem dL_law_824 : decode cL_law 824 = .ok (.invokevirtual 106, 3) := by decide +kernel
theorem dL_law_827 : decode cL_law 827 = .ok (.if_icmp .eq 170, 3) := by decide +kernel
theorem dL_law_830 : decode cL_law 830 = .ok (.iconst 0, 1) := by decide +kernel
theorem dL_law_831 : decode cL_law 831 = .ok (.ireturn, 1) := by decide +kernel
theorem dL_law_832 : decode cL_law 832 = .ok (.aload_n 1, 1) := by decide +kernel
theorem dL_law_833 : decode cL_law 833 = .ok (.aload_n 0, 1) := by decide +kernel
theorem dL_law_834 : decode cL_law 834 = .ok (.iload_n 3, 1) := by decide +kernel
theorem dL_law_835 : decode cL_law 835 = .ok (.iconst 1, 1) := by decide +kernel
theorem dL_law_836 : decode cL_law 836 = .ok (.iadd, 1) := by decide +kernel
theorem dL_law_837 : decode cL_law 837 = .ok (.iaload, 1) := by decide +kernel
theorem dL_law_838 : decode cL_law 838 = .ok (.aload_n 0, 1) := by decide +kernel
theorem dL_law_839 : decode cL_law 839 = .ok (.iload_n 3, 1) := by decide +kernel
theorem dL_law_840 : decode cL_law 840 = .ok (.iconst 2, 1) := by decide +kernel
theorem dL_law_841 : decode cL_law 841 = .ok (.iadd, 1) := by decide +kernel
theorem dL_law_842 : decode cL_law 842 = .ok (.iaload, 1) := by decide +kernel
theorem dL_law_843 : decode cL_law 843 = .ok (.invokevirtual 107, 3) := by decide +kernel
theorem dL_law_846 : decode cL_law 846 = .ok (.aload_n 2, 1) := by decide +kernel
theorem dL_law_847 : decode cL_law 847 = .ok (.aload_n 0, 1) := by decide +kernel
theorem dL_law_848 : decode cL_law 848 = .ok (.iload_n 3, 1) := by decide +kernel
theorem dL_law_849 : decode cL_law 849 = .ok (.iconst 1, 1) := by decide +kernel
theorem dL_law_850 : decode cL_law 850 = .ok (.iadd, 1) := by decide +kernel
theorem dL_law_851 : decode cL_law 851 = .ok (.iaload, 1) := by decide +kernel
theorem dL_law_852 : decode cL_law 852 = .ok (.aload_n 0, 1) := by decide +kernel
theorem dL_law_853 : decode cL_law 853 = .ok (.iload_n 3, 1) := by decide +kernel
theorem dL_law_854 : decode cL_law 854 = .ok (.iconst 2, 1) := by decide +kernel
theorem dL_law_855 : decode cL_law 855 = .ok (.iadd, 1) := by decide +kernel
theorem dL_law_856 : decode cL_law 856 = .ok (.iaload, 1) := by decide +kernel
theorem dL_law_857 : decode cL_law 857 = .ok (.invokevirtual 110, 3) := by decide +kernel
theorem dL_law_860 : decode cL_law 860 = .ok (.if_icmp .eq 137, 3) := by decide +kernel
theorem dL_law_863 : decode cL_law 863 = .ok (.iconst 0, 1) := by decide +kernel
theorem dL_law_864 : decode cL_law 864 = .ok (.ireturn, 1) := by decide +kernel
theorem dL_law_865 : decode cL_law 865 = .ok (.aload_n 1, 1) := by decide +kernel
theorem dL_law_866 : decode cL_law 866 = .ok (.aload_n 0, 1) := by decide +kernel
theorem dL_law_867 : decode cL_law 867 = .ok (.iload_n 3, 1) := by decide +kernel
theorem dL_law_868 : decode cL_law 868 = .ok (.iconst 1, 1) := by decide +kernel
theorem dL_law_869 : decode cL_law 869 = .ok (.iadd, 1) := by decide +kernel
theorem dL_law_870 : decode cL_law 870 = .ok (.iaload, 1) := by decide +kernel
theorem dL_law_871 : decode cL_law 871 = .ok (.aload_n 0, 1) := by decide +kernel
theorem dL_law_872 : decode cL_law 872 = .ok (.iload_n 3, 1) := by decide +kernel
theorem dL_law_873 : decode cL_law 873 = .ok (.iconst 2, 1) := by decide +kernel
theorem dL_law_874 : decode cL_law 874 = .ok (.iadd, 1) := by decide +kernel
theorem dL_law_875 : decode cL_law 875 = .ok (.iaload, 1) := by decide +kernel
theorem dL_law_876 : decode cL_law 876 = .ok (.invokevirtual 111, 3) := by decide +kernel
theorem dL_law_879 : decode cL_law 879 = .ok (.aload_n 2, 1) := by decide +kernel
theorem dL_law_880 : decode cL_law 880 = .ok (.aload_n 0, 1) := by decide +kernel
theorem dL_law_881 : decode cL_law 881 = .ok (.iload_n 3, 1) := by decide +kernel
theorem dL_law_882 : decode cL_law 882 = .ok (.iconst 1, 1) := by decide +kernel
theorem dL_law_883 : decode cL_law 883 = .ok (.iadd, 1) := by decide +kernel
theorem dL_law_884 : decode cL_law 884 = .ok (.iaload, 1) := by decide +kernel
theorem dL_law_885 : decode cL_law 885 = .ok (.aload_n 0, 1) := by decide +kernel
theorem dL_law_886 : decode cL_law 886 = .ok (.iload_n 3, 1) := by decide +kernel
theorem dL_law_887 : decode cL_law 887 = .ok (.iconst 2, 1) := by decide +kernel
theorem dL_law_888 : decode cL_law 888 = .ok (.iadd, 1) := by decide +kernel
theorem dL_law_889 : decode cL_law 889 = .ok (.iaload, 1) := by decide +kernel
theorem dL_law_890 : decode cL_law 890 = .ok (.invokevirtual 114, 3) := by decide +kernel
theorem dL_law_893 : decode cL_law 893 = .ok (.if_icmp .eq 104, 3) := by decide +kernel
theorem dL_law_896 : decode cL_law 896 = .ok (.iconst 0, 1) := by decide +kernel
theorem dL_law_897 : decode cL_law 897 = .ok (.ireturn, 1) := by decide +kernel
theorem dL_law_898 : decode cL_law 898 = .ok (.aload_n 1, 1) := by decide +kernel
theorem dL_law_899 : decode cL_law 899 = .ok (.aload_n 0, 1) := by decide +kernel
theorem dL_law_900 : decode cL_law 900 = .ok (.iload_n 3, 1) := by decide +kernel
theorem dL_law_901 : decode cL_law 901 = .ok (.iconst 1, 1) := by decide +kernel
theorem dL_law_902 : decode cL_law 902 = .ok (.iadd, 1) := by decide +kernel
theorem dL_law_903 : decode cL_law 903 = .ok (.iaload, 1) := by decide +kernel
theorem dL_law_904 : decode cL_law 904 = .ok (.aload_n 0, 1) := by decide +kernel
theorem dL_law_905 : decode cL_law 905 = .ok (.iload_n 3, 1) := by decide +kernel
theorem dL_law_906 : decode cL_law 906 = .ok (.iconst 2, 1) := by decide +kernel
theorem dL_law_907 : decode cL_law 907 = .ok (.iadd, 1) := by decide +kernel
theorem dL_law_908 : decode cL_law 908 = .ok (.iaload, 1) := by decide +kernel
theorem dL_law_909 : decode cL_law 909 = .ok (.invokevirtual 115, 3) := by decide +kernel
theorem dL_law_912 : decode cL_law 912 = .ok (.aload_n 2, 1) := by decide +kernel
theorem dL_law_913 : decode cL_law 913 = .ok (.aload_n 0, 1) := by decide +kernel
theorem dL_law_914 : decode cL_law 914 = .ok (.iload_n 3, 1) := by decide +kernel
theorem dL_law_915 : decode cL_law 915 = .ok (.iconst 1, 1) := by decide +kernel
theorem dL_law_916 : decode cL_law 916 = .ok (.iadd, 1) := by decide +kernel
theorem dL_law_917 : decode cL_law 917 = .ok (.iaload, 1) := by decide +kernel
theorem dL_law_918 : decode cL_law 918 = .ok (.aload_n 0, 1) := by decide +kernel
theorem dL_law_919 : decode cL_law 919 = .ok (.iload_n 3, 1) := by decide +kernel
theorem dL_law_920 : decode cL_law 920 = .ok (.iconst 2, 1) := by decide +kernel
theorem dL_law_921 : decode cL_law 921 = .ok (.iadd, 1) := by decide +kernel
theorem dL_law_922 : decode cL_law 922 = .ok (.iaload, 1) := by decide +kernel
theorem dL_law_923 : decode cL_law 923 = .ok (.invokevirtual 118, 3) := by decide +kernel
theorem dL_law_926 : decode cL_law 926 = .ok (.if_icmp .eq 71, 3) := by decide +kernel
theorem dL_law_929 : decode cL_law 929 = .ok (.iconst 0, 1) := by decide +kernel
theorem dL_law_930 : decode cL_law 930 = .ok (.ireturn, 1) := by decide +kernel
theorem dL_law_931 : decode cL_law 931 = .ok (.aload_n 1, 1) := by decide +kernel
theorem dL_law_932 : decode cL_law 932 = .ok (.aload_n 0, 1) := by decide +kernel
theorem dL_law_933 : decode cL_law 933 = .ok (.iload_n 3, 1) := by decide +kernel
theorem dL_law_934 : decode cL_law 934 = .ok (.iconst 1, 1) := by decide +kernel
theorem dL_law_935 : decode cL_law 935 = .ok (.iadd, 1) := by decide +kernel
theorem dL_law_936 : decode cL_law 936 = .ok (.iaload, 1) := by decide +kernel
theorem dL_law_937 : decode cL_law 937 = .ok (.aload_n 0, 1) := by decide +kernel
theorem dL_law_938 : decode cL_law 938 = .ok (.iload_n 3, 1) := by decide +kernel
theorem dL_law_939 : decode cL_law 939 = .ok (.iconst 2, 1) := by decide +kernel
theorem dL_law_940 : decode cL_law 940 = .ok (.iadd, 1) := by decide +kernel
theorem dL_law_941 : decode cL_law 941 = .ok (.iaload, 1) := by decide +kernel
theorem dL_law_942 : decode cL_law 942 = .ok (.invokevirtual 119, 3) := by decide +kernel
theorem dL_law_945 : decode cL_law 945 = .ok (.aload_n 2, 1) := by decide +kernel
theorem dL_law_946 : decode cL_law 946 = .ok (.aload_n 0, 1) := by decide +kernel
theorem dL_law_947 : decode cL_law 947 = .ok (.iload_n 3, 1) := by decide +kernel
theorem dL_law_948 : decode cL_law 948 = .ok (.iconst 1, 1) := by decide +kernel
theorem dL_law_949 : decode cL_law 949 = .ok (.iadd, 1) := by decide +kernel
theorem dL_law_950 : decode cL_law 950 = .ok (.iaload, 1) := by decide +kernel
theorem dL_law_951 : decode cL_law 951 = .ok (.aload_n 0, 1) := by decide +kernel
theorem dL_law_952 : decode cL_law 952 = .ok (.iload_n 3, 1) := by decide +kernel
theorem dL_law_953 : decode cL_law 953 = .ok (.iconst 2, 1) := by decide +kernel
theorem dL_law_954 : decode cL_law 954 = .ok (.iadd, 1) := by decide +kernel
theorem dL_law_955 : decode cL_law 955 = .ok (.iaload, 1) := by decide +kernel
theorem dL_law_956 : decode cL_law 956 = .ok (.invokevirtual 122, 3) := by decide +kernel
theorem dL_law_959 : decode cL_law 959 = .ok (.if_icmp .eq 38, 3) := by decide +kernel
theorem dL_law_962 : decode cL_law 962 = .ok (.iconst 0, 1) := by decide +kernel
theorem dL_law_963 : decode cL_law 963 = .ok (.ireturn, 1) := by decide +kernel
theorem dL_law_964 : decode cL_law 964 = .ok (.aload_n 1, 1) := by decide +kernel
theorem dL_law_965 : decode cL_law 965 = .ok (.aload_n 0, 1) := by decide +kernel
theorem dL_law_966 : decode cL_law 966 = .ok (.iload_n 3, 1) := by decide +kernel
theorem dL_law_967 : decode cL_law 967 = .ok (.iconst 1, 1) := by decide +kernel
theorem dL_law_968 : decode cL_law 968 = .ok (.iadd, 1) := by decide +kernel
theorem dL_law_969 : decode cL_law 969 = .ok (.iaload, 1) := by decide +kernel
theorem dL_law_970 : decode cL_law 970 = .ok (.aload_n 0, 1) := by decide +kernel
theorem dL_law_971 : decode cL_law 971 = .ok (.iload_n 3, 1) := by decide +kernel
theorem dL_law_972 : decode cL_law 972 = .ok (.iconst 2, 1) := by decide +kernel
theorem dL_law_973 : decode cL_law 973 = .ok (.iadd, 1) := by decide +kernel
theorem dL_law_974 : decode cL_law 974 = .ok (.iaload, 1) := by decide +kernel
theorem dL_law_975 : decode cL_law 975 = .ok (.invokevirtual 123, 3) := by decide +kernel
theorem dL_law_978 : decode cL_law 978 = .ok (.aload_n 2, 1) := by decide +kernel
theorem dL_law_979 : decode cL_law 979 = .ok (.aload_n 0, 1) := by decide +kernel
theorem dL_law_980 : decode cL_law 980 = .ok (.iload_n 3, 1) := by decide +kernel
theorem dL_law_981 : decode cL_law 981 = .ok (.iconst 1, 1) := by decide +kernel
theorem dL_law_982 : decode cL_law 982 = .ok (.iadd, 1) := by decide +kernel
theorem dL_law_983 : decode cL_law 983 = .ok (.iaload, 1) := by decide +kernel
theorem dL_law_984 : decode cL_law 984 = .ok (.aload_n 0, 1) := by decide +kernel
theorem dL_law_985 : decode cL_law 985 = .ok (.iload_n 3, 1) := by decide +kernel
theorem dL_law_986 : decode cL_law 986 = .ok (.iconst 2, 1) := by decide +kernel
theorem dL_law_987 : decode cL_law 987 = .ok (.iadd, 1) := by decide +kernel
theorem dL_law_988 : decode cL_law 988 = .ok (.iaload, 1) := by decide +kernel
theorem dL_law_989 : decode cL_law 989 = .ok (.invokevirtual 126, 3) := by decide +kernel
theorem dL_law_992 : decode cL_law 992 = .ok (.if_icmp .eq 5, 3) := by decide +kernel
theorem dL_law_995 : decode cL_law 995 = .ok (.iconst 0, 1) := by decide +kernel
theorem dL_law_996 : decode cL_law 996 = .ok (.ireturn, 1) := by decide +kernel
theorem dL_law_997 : decode cL_law 997 = .ok (.iinc 3 6, 3) := by decide +kernel
theorem dL_law_1000 : decode cL_law 1000 = .ok (.goto (-982), 3) := by decide +kernel
theorem dL_law_1003 : decode cL_law 1003 = .ok (.iconst 1, 1) := by decide +kernel
theorem dL_law_1004 : decode cL_law 1004 = .ok (.ireturn, 1) := by decide +kernel
abbrev vwCl : List vw_C := [(RX0, TX0, 3), (RX1, TX1, 6), (RX2, TX2, 3), (RX3, TX3, 8), (RX4, TX4, 9), (RX5, TX5, 2), (RX6, TX6, 9), (RX7, TX7, 4), (RX8, TX8, 12)]
