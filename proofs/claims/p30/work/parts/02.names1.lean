theorem dX0_init_0 : decode cX0_init 0 = .ok (.aload_n 0, 1) := by decide +kernel
theorem dX0_init_1 : decode cX0_init 1 = .ok (.invokespecial 3, 3) := by decide +kernel
theorem dX0_init_4 : decode cX0_init 4 = .ok (.aload_n 0, 1) := by decide +kernel
theorem dX0_init_5 : decode cX0_init 5 = .ok (.bipush 24, 2) := by decide +kernel
theorem dX0_init_7 : decode cX0_init 7 = .ok (.newarray .int, 2) := by decide +kernel
theorem dX0_init_9 : decode cX0_init 9 = .ok (.putfield 9, 3) := by decide +kernel
theorem dX0_init_12 : decode cX0_init 12 = .ok (.aload_n 0, 1) := by decide +kernel
theorem dX0_init_13 : decode cX0_init 13 = .ok (.bipush 96, 2) := by decide +kernel
theorem dX0_init_15 : decode cX0_init 15 = .ok (.newarray .int, 2) := by decide +kernel
theorem dX0_init_17 : decode cX0_init 17 = .ok (.putfield 15, 3) := by decide +kernel
theorem dX0_init_20 : decode cX0_init 20 = .ok (.return_, 1) := by decide +kernel
theorem dX0_copyFrom_0 : decode cX0_copyFrom 0 = .ok (.aload_n 0, 1) := by decide +kernel
theorem dX0_copyFrom_1 : decode cX0_copyFrom 1 = .ok (.aload_n 1, 1) := by decide +kernel
theorem dX0_copyFrom_2 : decode cX0_copyFrom 2 = .ok (.getfield 18, 3) := by decide +kernel
theorem dX0_copyFrom_5 : decode cX0_copyFrom 5 = .ok (.putfield 18, 3) := by decide +kernel
theorem dX0_copyFrom_8 : decode cX0_copyFrom 8 = .ok (.aload_n 1, 1) := by decide +kernel
theorem dX0_copyFrom_9 : decode cX0_copyFrom 9 = .ok (.getfield 9, 3) := by decide +kernel
theorem dX0_copyFrom_12 : decode cX0_copyFrom 12 = .ok (.aload_n 0, 1) := by decide +kernel
theorem dX0_copyFrom_13 : decode cX0_copyFrom 13 = .ok (.getfield 9, 3) := by decide +kernel
theorem dX0_copyFrom_16 : decode cX0_copyFrom 16 = .ok (.invokestatic 22, 3) := by decide +kernel
theorem dX0_copyFrom_19 : decode cX0_copyFrom 19 = .ok (.aload_n 1, 1) := by decide +kernel
theorem dX0_copyFrom_20 : decode cX0_copyFrom 20 = .ok (.getfield 15, 3) := by decide +kernel
theorem dX0_copyFrom_23 : decode cX0_copyFrom 23 = .ok (.aload_n 0, 1) := by decide +kernel
theorem dX0_copyFrom_24 : decode cX0_copyFrom 24 = .ok (.getfield 15, 3) := by decide +kernel
theorem dX0_copyFrom_27 : decode cX0_copyFrom 27 = .ok (.invokestatic 22, 3) := by decide +kernel
theorem dX0_copyFrom_30 : decode cX0_copyFrom 30 = .ok (.return_, 1) := by decide +kernel
theorem dX0_has_0 : decode cX0_has 0 = .ok (.iload_n 1, 1) := by decide +kernel
theorem dX0_has_1 : decode cX0_has 1 = .ok (.ifCond .lt 15, 3) := by decide +kernel
theorem dX0_has_4 : decode cX0_has 4 = .ok (.iload_n 1, 1) := by decide +kernel
theorem dX0_has_5 : decode cX0_has 5 = .ok (.aload_n 0, 1) := by decide +kernel
theorem dX0_has_6 : decode cX0_has 6 = .ok (.getfield 18, 3) := by decide +kernel
theorem dX0_has_9 : decode cX0_has 9 = .ok (.if_icmp .ge 7, 3) := by decide +kernel
theorem dX0_has_12 : decode cX0_has 12 = .ok (.iconst 1, 1) := by decide +kernel
theorem dX0_has_13 : decode cX0_has 13 = .ok (.goto 4, 3) := by decide +kernel
theorem dX0_has_16 : decode cX0_has 16 = .ok (.iconst 0, 1) := by decide +kernel
theorem dX0_has_17 : decode cX0_has 17 = .ok (.ireturn, 1) := by decide +kernel
theorem dX0_add_0 : decode cX0_add 0 = .ok (.aload_n 0, 1) := by decide +kernel
theorem dX0_add_1 : decode cX0_add 1 = .ok (.getfield 18, 3) := by decide +kernel
theorem dX0_add_4 : decode cX0_add 4 = .ok (.istore 4, 2) := by decide +kernel
theorem dX0_add_6 : decode cX0_add 6 = .ok (.aload_n 0, 1) := by decide +kernel
theorem dX0_add_7 : decode cX0_add 7 = .ok (.getfield 9, 3) := by decide +kernel
theorem dX0_add_10 : decode cX0_add 10 = .ok (.iload 4, 2) := by decide +kernel
theorem dX0_add_12 : decode cX0_add 12 = .ok (.iconst 3, 1) := by decide +kernel
theorem dX0_add_13 : decode cX0_add 13 = .ok (.imul, 1) := by decide +kernel
theorem dX0_add_14 : decode cX0_add 14 = .ok (.iload_n 1, 1) := by decide +kernel
theorem dX0_add_15 : decode cX0_add 15 = .ok (.invokestatic 26, 3) := by decide +kernel
theorem dX0_add_18 : decode cX0_add 18 = .ok (.aload_n 0, 1) := by decide +kernel
theorem dX0_add_19 : decode cX0_add 19 = .ok (.getfield 9, 3) := by decide +kernel
theorem dX0_add_22 : decode cX0_add 22 = .ok (.iload 4, 2) := by decide +kernel
theorem dX0_add_24 : decode cX0_add 24 = .ok (.iconst 3, 1) := by decide +kernel
theorem dX0_add_25 : decode cX0_add 25 = .ok (.imul, 1) := by decide +kernel
theorem dX0_add_26 : decode cX0_add 26 = .ok (.iconst 1, 1) := by decide +kernel
theorem dX0_add_27 : decode cX0_add 27 = .ok (.iadd, 1) := by decide +kernel
theorem dX0_add_28 : decode cX0_add 28 = .ok (.iload_n 2, 1) := by decide +kernel
theorem dX0_add_29 : decode cX0_add 29 = .ok (.invokestatic 26, 3) := by decide +kernel
theorem dX0_add_32 : decode cX0_add 32 = .ok (.aload_n 0, 1) := by decide +kernel
theorem dX0_add_33 : decode cX0_add 33 = .ok (.getfield 9, 3) := by decide +kernel
theorem dX0_add_36 : decode cX0_add 36 = .ok (.iload 4, 2) := by decide +kernel
theorem dX0_add_38 : decode cX0_add 38 = .ok (.iconst 3, 1) := by decide +kernel
theorem dX0_add_39 : decode cX0_add 39 = .ok (.imul, 1) := by decide +kernel
theorem dX0_add_40 : decode cX0_add 40 = .ok (.iconst 2, 1) := by decide +kernel
theorem dX0_add_41 : decode cX0_add 41 = .ok (.iadd, 1) := by decide +kernel
theorem dX0_add_42 : decode cX0_add 42 = .ok (.iload_n 3, 1) := by decide +kernel
theorem dX0_add_43 : decode cX0_add 43 = .ok (.invokestatic 26, 3) := by decide +kernel
theorem dX0_add_46 : decode cX0_add 46 = .ok (.iconst 0, 1) := by decide +kernel
theorem dX0_add_47 : decode cX0_add 47 = .ok (.istore 5, 2) := by decide +kernel
theorem dX0_add_49 : decode cX0_add 49 = .ok (.iload 5, 2) := by decide +kernel
theorem dX0_add_51 : decode cX0_add 51 = .ok (.bipush 12, 2) := by decide +kernel
theorem dX0_add_53 : decode cX0_add 53 = .ok (.if_icmp .ge 25, 3) := by decide +kernel
theorem dX0_add_56 : decode cX0_add 56 = .ok (.aload_n 0, 1) := by decide +kernel
theorem dX0_add_57 : decode cX0_add 57 = .ok (.getfield 15, 3) := by decide +kernel
theorem dX0_add_60 : decode cX0_add 60 = .ok (.iload 5, 2) := by decide +kernel
theorem dX0_add_62 : decode cX0_add 62 = .ok (.bipush 8, 2) := by decide +kernel
theorem dX0_add_64 : decode cX0_add 64 = .ok (.imul, 1) := by decide +kernel
theorem dX0_add_65 : decode cX0_add 65 = .ok (.iload 4, 2) := by decide +kernel
theorem dX0_add_67 : decode cX0_add 67 = .ok (.iadd, 1) := by decide +kernel
theorem dX0_add_68 : decode cX0_add 68 = .ok (.iconst (-1), 1) := by decide +kernel
theorem dX0_add_69 : decode cX0_add 69 = .ok (.invokestatic 26, 3) := by decide +kernel
theorem dX0_add_72 : decode cX0_add 72 = .ok (.iinc 5 1, 3) := by decide +kernel
theorem dX0_add_75 : decode cX0_add 75 = .ok (.goto (-26), 3) := by decide +kernel
theorem dX0_add_78 : decode cX0_add 78 = .ok (.aload_n 0, 1) := by decide +kernel
theorem dX0_add_79 : decode cX0_add 79 = .ok (.dup, 1) := by decide +kernel
theorem dX0_add_80 : decode cX0_add 80 = .ok (.getfield 18, 3) := by decide +kernel
theorem dX0_add_83 : decode cX0_add 83 = .ok (.iconst 1, 1) := by decide +kernel
theorem dX0_add_84 : decode cX0_add 84 = .ok (.iadd, 1) := by decide +kernel
theorem dX0_add_85 : decode cX0_add 85 = .ok (.putfield 18, 3) := by decide +kernel
theorem dX0_add_88 : decode cX0_add 88 = .ok (.iload 4, 2) := by decide +kernel
theorem dX0_add_90 : decode cX0_add 90 = .ok (.ireturn, 1) := by decide +kernel
theorem dX0_measureOf_0 : decode cX0_measureOf 0 = .ok (.aload_n 0, 1) := by decide +kernel
theorem dX0_measureOf_1 : decode cX0_measureOf 1 = .ok (.getfield 9, 3) := by decide +kernel
theorem dX0_measureOf_4 : decode cX0_measureOf 4 = .ok (.iload_n 1, 1) := by decide +kernel
theorem dX0_measureOf_5 : decode cX0_measureOf 5 = .ok (.iconst 3, 1) := by decide +kernel
theorem dX0_measureOf_6 : decode cX0_measureOf 6 = .ok (.imul, 1) := by decide +kernel
theorem dX0_measureOf_7 : decode cX0_measureOf 7 = .ok (.iload_n 2, 1) := by decide +kernel
theorem dX0_measureOf_8 : decode cX0_measureOf 8 = .ok (.iadd, 1) := by decide +kernel
theorem dX0_measureOf_9 : decode cX0_measureOf 9 = .ok (.invokestatic 30, 3) := by decide +kernel
theorem dX0_measureOf_12 : decode cX0_measureOf 12 = .ok (.ireturn, 1) := by decide +kernel
theorem dX0_wornIn_0 : decode cX0_wornIn 0 = .ok (.aload_n 0, 1) := by decide +kernel
theorem dX0_wornIn_1 : decode cX0_wornIn 1 = .ok (.getfield 15, 3) := by decide +kernel
theorem dX0_wornIn_4 : decode cX0_wornIn 4 = .ok (.iload_n 1, 1) := by decide +kernel
theorem dX0_wornIn_5 : decode cX0_wornIn 5 = .ok (.bipush 8, 2) := by decide +kernel
theorem dX0_wornIn_7 : decode cX0_wornIn 7 = .ok (.imul, 1) := by decide +kernel
theorem dX0_wornIn_8 : decode cX0_wornIn 8 = .ok (.iload_n 2, 1) := by decide +kernel
theorem dX0_wornIn_9 : decode cX0_wornIn 9 = .ok (.iadd, 1) := by decide +kernel
theorem dX0_wornIn_10 : decode cX0_wornIn 10 = .ok (.invokestatic 30, 3) := by decide +kernel
theorem dX0_wornIn_13 : decode cX0_wornIn 13 = .ok (.ireturn, 1) := by decide +kernel
theorem dX0_dress_0 : decode cX0_dress 0 = .ok (.aload_n 0, 1) := by decide +kernel
theorem dX0_dress_1 : decode cX0_dress 1 = .ok (.iload_n 1, 1) := by decide +kernel
theorem dX0_dress_2 : decode cX0_dress 2 = .ok (.iload_n 2, 1) := by decide +kernel
theorem dX0_dress_3 : decode cX0_dress 3 = .ok (.invokevirtual 34, 3) := by decide +kernel
theorem dX0_dress_6 : decode cX0_dress 6 = .ok (.istore 4, 2) := by decide +kernel
theorem dX0_dress_8 : decode cX0_dress 8 = .ok (.aload_n 0, 1) := by decide +kernel
theorem dX0_dress_9 : decode cX0_dress 9 = .ok (.getfield 15, 3) := by decide +kernel
theorem dX0_dress_12 : decode cX0_dress 12 = .ok (.iload_n 1, 1) := by decide +kernel
theorem dX0_dress_13 : decode cX0_dress 13 = .ok (.bipush 8, 2) := by decide +kernel
theorem dX0_dress_15 : decode cX0_dress 15 = .ok (.imul, 1) := by decide +kernel
theorem dX0_dress_16 : decode cX0_dress 16 = .ok (.iload_n 2, 1) := by decide +kernel
theorem dX0_dress_17 : decode cX0_dress 17 = .ok (.iadd, 1) := by decide +kernel
theorem dX0_dress_18 : decode cX0_dress 18 = .ok (.iload_n 3, 1) := by decide +kernel
theorem dX0_dress_19 : decode cX0_dress 19 = .ok (.invokestatic 26, 3) := by decide +kernel
theorem dX0_dress_22 : decode cX0_dress 22 = .ok (.iload 4, 2) := by decide +kernel
theorem dX0_dress_24 : decode cX0_dress 24 = .ok (.ireturn, 1) := by decide +kernel
theorem dX0_wearers_0 : decode cX0_wearers 0 = .ok (.iconst 0, 1) := by decide +kernel
theorem dX0_wearers_1 : decode cX0_wearers 1 = .ok (.istore_n 3, 1) := by decide +kernel
theorem dX0_wearers_2 : decode cX0_wearers 2 = .ok (.iconst 0, 1) := by decide +kernel
theorem dX0_wearers_3 : decode cX0_wearers 3 = .ok (.istore 4, 2) := by decide +kernel
theorem dX0_wearers_5 : decode cX0_wearers 5 = .ok (.iload 4, 2) := by decide +kernel
theorem dX0_wearers_7 : decode cX0_wearers 7 = .ok (.aload_n 0, 1) := by decide +kernel
theorem dX0_wearers_8 : decode cX0_wearers 8 = .ok (.getfield 18, 3) := by decide +kernel
theorem dX0_wearers_11 : decode cX0_wearers 11 = .ok (.if_icmp .ge 23, 3) := by decide +kernel
theorem dX0_wearers_14 : decode cX0_wearers 14 = .ok (.aload_n 0, 1) := by decide +kernel
theorem dX0_wearers_15 : decode cX0_wearers 15 = .ok (.iload_n 1, 1) := by decide +kernel
theorem dX0_wearers_16 : decode cX0_wearers 16 = .ok (.iload 4, 2) := by decide +kernel
theorem dX0_wearers_18 : decode cX0_wearers 18 = .ok (.invokevirtual 34, 3) := by decide +kernel
theorem dX0_wearers_21 : decode cX0_wearers 21 = .ok (.iload_n 2, 1) := by decide +kernel
theorem dX0_wearers_22 : decode cX0_wearers 22 = .ok (.if_icmp .ne 6, 3) := by decide +kernel
theorem dX0_wearers_25 : decode cX0_wearers 25 = .ok (.iinc 3 1, 3) := by decide +kernel
theorem dX0_wearers_28 : decode cX0_wearers 28 = .ok (.iinc 4 1, 3) := by decide +kernel
theorem dX0_wearers_31 : decode cX0_wearers 31 = .ok (.goto (-26), 3) := by decide +kernel
theorem dX0_wearers_34 : decode cX0_wearers 34 = .ok (.iload_n 3, 1) := by decide +kernel
theorem dX0_wearers_35 : decode cX0_wearers 35 = .ok (.ireturn, 1) := by decide +kernel
theorem dX0_isWornByAnother_0 : decode cX0_isWornByAnother 0 = .ok (.aload_n 0, 1) := by decide +kernel
theorem dX0_isWornByAnother_1 : decode cX0_isWornByAnother 1 = .ok (.iload_n 1, 1) := by decide +kernel
theorem dX0_isWornByAnother_2 : decode cX0_isWornByAnother 2 = .ok (.iload_n 2, 1) := by decide +kernel
theorem dX0_isWornByAnother_3 : decode cX0_isWornByAnother 3 = .ok (.invokevirtual 34, 3) := by decide +kernel
theorem dX0_isWornByAnother_6 : decode cX0_isWornByAnother 6 = .ok (.iload_n 3, 1) := by decide +kernel
theorem dX0_isWornByAnother_7 : decode cX0_isWornByAnother 7 = .ok (.if_icmp .ne 7, 3) := by decide +kernel
theorem dX0_isWornByAnother_10 : decode cX0_isWornByAnother 10 = .ok (.iconst 1, 1) := by decide +kernel
theorem dX0_isWornByAnother_11 : decode cX0_isWornByAnother 11 = .ok (.goto 4, 3) := by decide +kernel
theorem dX0_isWornByAnother_14 : decode cX0_isWornByAnother 14 = .ok (.iconst 0, 1) := by decide +kernel
theorem dX0_isWornByAnother_15 : decode cX0_isWornByAnother 15 = .ok (.istore 4, 2) := by decide +kernel
theorem dX0_isWornByAnother_17 : decode cX0_isWornByAnother 17 = .ok (.aload_n 0, 1) := by decide +kernel
theorem dX0_isWornByAnother_18 : decode cX0_isWornByAnother 18 = .ok (.iload_n 1, 1) := by decide +kernel
theorem dX0_isWornByAnother_19 : decode cX0_isWornByAnother 19 = .ok (.iload_n 3, 1) := by decide +kernel
theorem dX0_isWornByAnother_20 : decode cX0_isWornByAnother 20 = .ok (.invokevirtual 38, 3) := by decide +kernel
theorem dX0_isWornByAnother_23 : decode cX0_isWornByAnother 23 = .ok (.iload 4, 2) := by decide +kernel
theorem dX0_isWornByAnother_25 : decode cX0_isWornByAnother 25 = .ok (.if_icmp .le 7, 3) := by decide +kernel
theorem dX0_isWornByAnother_28 : decode cX0_isWornByAnother 28 = .ok (.iconst 1, 1) := by decide +kernel
theorem dX0_isWornByAnother_29 : decode cX0_isWornByAnother 29 = .ok (.goto 4, 3) := by decide +kernel
theorem dX0_isWornByAnother_32 : decode cX0_isWornByAnother 32 = .ok (.iconst 0, 1) := by decide +kernel
theorem dX0_isWornByAnother_33 : decode cX0_isWornByAnother 33 = .ok (.ireturn, 1) := by decide +kernel
theorem dX0_scenesOf_0 : decode cX0_scenesOf 0 = .ok (.iconst 0, 1) := by decide +kernel
theorem dX0_scenesOf_1 : decode cX0_scenesOf 1 = .ok (.istore_n 2, 1) := by decide +kernel
theorem dX0_scenesOf_2 : decode cX0_scenesOf 2 = .ok (.iconst 0, 1) := by decide +kernel
theorem dX0_scenesOf_3 : decode cX0_scenesOf 3 = .ok (.istore_n 3, 1) := by decide +kernel
theorem dX0_scenesOf_4 : decode cX0_scenesOf 4 = .ok (.iload_n 3, 1) := by decide +kernel
theorem dX0_scenesOf_5 : decode cX0_scenesOf 5 = .ok (.bipush 12, 2) := by decide +kernel
theorem dX0_scenesOf_7 : decode cX0_scenesOf 7 = .ok (.if_icmp .ge 21, 3) := by decide +kernel
theorem dX0_scenesOf_10 : decode cX0_scenesOf 10 = .ok (.aload_n 0, 1) := by decide +kernel
theorem dX0_scenesOf_11 : decode cX0_scenesOf 11 = .ok (.iload_n 3, 1) := by decide +kernel
theorem dX0_scenesOf_12 : decode cX0_scenesOf 12 = .ok (.iload_n 1, 1) := by decide +kernel
theorem dX0_scenesOf_13 : decode cX0_scenesOf 13 = .ok (.invokevirtual 38, 3) := by decide +kernel
theorem dX0_scenesOf_16 : decode cX0_scenesOf 16 = .ok (.ifCond .le 6, 3) := by decide +kernel
theorem dX0_scenesOf_19 : decode cX0_scenesOf 19 = .ok (.iinc 2 1, 3) := by decide +kernel
theorem dX0_scenesOf_22 : decode cX0_scenesOf 22 = .ok (.iinc 3 1, 3) := by decide +kernel
theorem dX0_scenesOf_25 : decode cX0_scenesOf 25 = .ok (.goto (-21), 3) := by decide +kernel
theorem dX0_scenesOf_28 : decode cX0_scenesOf 28 = .ok (.iload_n 2, 1) := by decide +kernel
theorem dX0_scenesOf_29 : decode cX0_scenesOf 29 = .ok (.ireturn, 1) := by decide +kernel
theorem dX0_isHandedOver_0 : decode cX0_isHandedOver 0 = .ok (.aload_n 0, 1) := by decide +kernel
theorem dX0_isHandedOver_1 : decode cX0_isHandedOver 1 = .ok (.iload_n 1, 1) := by decide +kernel
theorem dX0_isHandedOver_2 : decode cX0_isHandedOver 2 = .ok (.iload_n 2, 1) := by decide +kernel
theorem dX0_isHandedOver_3 : decode cX0_isHandedOver 3 = .ok (.invokevirtual 38, 3) := by decide +kernel
theorem dX0_isHandedOver_6 : decode cX0_isHandedOver 6 = .ok (.ifCond .ne 5, 3) := by decide +kernel
theorem dX0_isHandedOver_9 : decode cX0_isHandedOver 9 = .ok (.iconst 0, 1) := by decide +kernel
theorem dX0_isHandedOver_10 : decode cX0_isHandedOver 10 = .ok (.ireturn, 1) := by decide +kernel
theorem dX0_isHandedOver_11 : decode cX0_isHandedOver 11 = .ok (.iconst 0, 1) := by decide +kernel
theorem dX0_isHandedOver_12 : decode cX0_isHandedOver 12 = .ok (.istore_n 3, 1) := by decide +kernel
theorem dX0_isHandedOver_13 : decode cX0_isHandedOver 13 = .ok (.iload_n 3, 1) := by decide +kernel
theorem dX0_isHandedOver_14 : decode cX0_isHandedOver 14 = .ok (.aload_n 0, 1) := by decide +kernel
theorem dX0_isHandedOver_15 : decode cX0_isHandedOver 15 = .ok (.getfield 18, 3) := by decide +kernel
theorem dX0_isHandedOver_18 : decode cX0_isHandedOver 18 = .ok (.if_icmp .ge 33, 3) := by decide +kernel
theorem dX0_isHandedOver_21 : decode cX0_isHandedOver 21 = .ok (.aload_n 0, 1) := by decide +kernel
theorem dX0_isHandedOver_22 : decode cX0_isHandedOver 22 = .ok (.iload_n 1, 1) := by decide +kernel
theorem dX0_isHandedOver_23 : decode cX0_isHandedOver 23 = .ok (.iconst 1, 1) := by decide +kernel
theorem dX0_isHandedOver_24 : decode cX0_isHandedOver 24 = .ok (.iadd, 1) := by decide +kernel
theorem dX0_isHandedOver_25 : decode cX0_isHandedOver 25 = .ok (.iload_n 3, 1) := by decide +kernel
theorem dX0_isHandedOver_26 : decode cX0_isHandedOver 26 = .ok (.invokevirtual 34, 3) := by decide +kernel
theorem dX0_isHandedOver_29 : decode cX0_isHandedOver 29 = .ok (.iload_n 2, 1) := by decide +kernel
theorem dX0_isHandedOver_30 : decode cX0_isHandedOver 30 = .ok (.if_icmp .ne 15, 3) := by decide +kernel
theorem dX0_isHandedOver_33 : decode cX0_isHandedOver 33 = .ok (.aload_n 0, 1) := by decide +kernel
theorem dX0_isHandedOver_34 : decode cX0_isHandedOver 34 = .ok (.iload_n 1, 1) := by decide +kernel
theorem dX0_isHandedOver_35 : decode cX0_isHandedOver 35 = .ok (.iload_n 3, 1) := by decide +kernel
theorem dX0_isHandedOver_36 : decode cX0_isHandedOver 36 = .ok (.invokevirtual 34, 3) := by decide +kernel
theorem dX0_isHandedOver_39 : decode cX0_isHandedOver 39 = .ok (.iload_n 2, 1) := by decide +kernel
theorem dX0_isHandedOver_40 : decode cX0_isHandedOver 40 = .ok (.if_icmp .eq 5, 3) := by decide +kernel
theorem dX0_isHandedOver_43 : decode cX0_isHandedOver 43 = .ok (.iconst 1, 1) := by decide +kernel
theorem dX0_isHandedOver_44 : decode cX0_isHandedOver 44 = .ok (.ireturn, 1) := by decide +kernel
theorem dX0_isHandedOver_45 : decode cX0_isHandedOver 45 = .ok (.iinc 3 1, 3) := by decide +kernel
theorem dX0_isHandedOver_48 : decode cX0_isHandedOver 48 = .ok (.goto (-35), 3) := by decide +kernel
theorem dX0_isHandedOver_51 : decode cX0_isHandedOver 51 = .ok (.iconst 0, 1) := by decide +kernel
theorem dX0_isHandedOver_52 : decode cX0_isHandedOver 52 = .ok (.ireturn, 1) := by decide +kernel
theorem dX0_quickChanges_0 : decode cX0_quickChanges 0 = .ok (.iconst 0, 1) := by decide +kernel
theorem dX0_quickChanges_1 : decode cX0_quickChanges 1 = .ok (.istore_n 1, 1) := by decide +kernel
theorem dX0_quickChanges_2 : decode cX0_quickChanges 2 = .ok (.iconst 0, 1) := by decide +kernel
theorem dX0_quickChanges_3 : decode cX0_quickChanges 3 = .ok (.istore_n 2, 1) := by decide +kernel
theorem dX0_quickChanges_4 : decode cX0_quickChanges 4 = .ok (.iload_n 2, 1) := by decide +kernel
theorem dX0_quickChanges_5 : decode cX0_quickChanges 5 = .ok (.iconst 1, 1) := by decide +kernel
theorem dX0_quickChanges_6 : decode cX0_quickChanges 6 = .ok (.iadd, 1) := by decide +kernel
theorem dX0_quickChanges_7 : decode cX0_quickChanges 7 = .ok (.bipush 12, 2) := by decide +kernel
theorem dX0_quickChanges_9 : decode cX0_quickChanges 9 = .ok (.if_icmp .ge 65, 3) := by decide +kernel
theorem dX0_quickChanges_12 : decode cX0_quickChanges 12 = .ok (.iconst 0, 1) := by decide +kernel
theorem dX0_quickChanges_13 : decode cX0_quickChanges 13 = .ok (.istore_n 3, 1) := by decide +kernel
theorem dX0_quickChanges_14 : decode cX0_quickChanges 14 = .ok (.iload_n 3, 1) := by decide +kernel
theorem dX0_quickChanges_15 : decode cX0_quickChanges 15 = .ok (.aload_n 0, 1) := by decide +kernel
theorem dX0_quickChanges_16 : decode cX0_quickChanges 16 = .ok (.getfield 18, 3) := by decide +kernel
theorem dX0_quickChanges_19 : decode cX0_quickChanges 19 = .ok (.if_icmp .ge 49, 3) := by decide +kernel
theorem dX0_quickChanges_22 : decode cX0_quickChanges 22 = .ok (.aload_n 0, 1) := by decide +kernel
theorem dX0_quickChanges_23 : decode cX0_quickChanges 23 = .ok (.iload_n 2, 1) := by decide +kernel
theorem dX0_quickChanges_24 : decode cX0_quickChanges 24 = .ok (.iload_n 3, 1) := by decide +kernel
theorem dX0_quickChanges_25 : decode cX0_quickChanges 25 = .ok (.invokevirtual 34, 3) := by decide +kernel
theorem dX0_quickChanges_28 : decode cX0_quickChanges 28 = .ok (.istore 4, 2) := by decide +kernel
theorem dX0_quickChanges_30 : decode cX0_quickChanges 30 = .ok (.aload_n 0, 1) := by decide +kernel
theorem dX0_quickChanges_31 : decode cX0_quickChanges 31 = .ok (.iload_n 2, 1) := by decide +kernel
theorem dX0_quickChanges_32 : decode cX0_quickChanges 32 = .ok (.iconst 1, 1) := by decide +kernel
theorem dX0_quickChanges_33 : decode cX0_quickChanges 33 = .ok (.iadd, 1) := by decide +kernel
theorem dX0_quickChanges_34 : decode cX0_quickChanges 34 = .ok (.iload_n 3, 1) := by decide +kernel
theorem dX0_quickChanges_35 : decode cX0_quickChanges 35 = .ok (.invokevirtual 34, 3) := by decide +kernel
theorem dX0_quickChanges_38 : decode cX0_quickChanges 38 = .ok (.istore 5, 2) := by decide +kernel
theorem dX0_quickChanges_40 : decode cX0_quickChanges 40 = .ok (.iload 4, 2) := by decide +kernel
theorem dX0_quickChanges_42 : decode cX0_quickChanges 42 = .ok (.iconst (-1), 1) := by decide +kernel
theorem dX0_quickChanges_43 : decode cX0_quickChanges 43 = .ok (.if_icmp .eq 19, 3) := by decide +kernel
theorem dX0_quickChanges_46 : decode cX0_quickChanges 46 = .ok (.iload 5, 2) := by decide +kernel
theorem dX0_quickChanges_48 : decode cX0_quickChanges 48 = .ok (.iconst (-1), 1) := by decide +kernel
theorem dX0_quickChanges_49 : decode cX0_quickChanges 49 = .ok (.if_icmp .eq 13, 3) := by decide +kernel
theorem dX0_quickChanges_52 : decode cX0_quickChanges 52 = .ok (.iload 4, 2) := by decide +kernel
theorem dX0_quickChanges_54 : decode cX0_quickChanges 54 = .ok (.iload 5, 2) := by decide +kernel
theorem dX0_quickChanges_56 : decode cX0_quickChanges 56 = .ok (.if_icmp .eq 6, 3) := by decide +kernel
theorem dX0_quickChanges_59 : decode cX0_quickChanges 59 = .ok (.iinc 1 1, 3) := by decide +kernel
theorem dX0_quickChanges_62 : decode cX0_quickChanges 62 = .ok (.iinc 3 1, 3) := by decide +kernel
theorem dX0_quickChanges_65 : decode cX0_quickChanges 65 = .ok (.goto (-51), 3) := by decide +kernel
theorem dX0_quickChanges_68 : decode cX0_quickChanges 68 = .ok (.iinc 2 1, 3) := by decide +kernel
theorem dX0_quickChanges_71 : decode cX0_quickChanges 71 = .ok (.goto (-67), 3) := by decide +kernel
theorem dX0_quickChanges_74 : decode cX0_quickChanges 74 = .ok (.iload_n 1, 1) := by decide +kernel
theorem dX0_quickChanges_75 : decode cX0_quickChanges 75 = .ok (.ireturn, 1) := by decide +kernel
theorem dX1_init_0 : decode cX1_init 0 = .ok (.aload_n 0, 1) := by decide +kernel
theorem dX1_init_1 : decode cX1_init 1 = .ok (.invokespecial 3, 3) := by decide +kernel
theorem dX1_init_4 : decode cX1_init 4 = .ok (.aload_n 0, 1) := by decide +kernel
theorem dX1_init_5 : decode cX1_init 5 = .ok (.bipush 24, 2) := by decide +kernel
theorem dX1_init_7 : decode cX1_init 7 = .ok (.newarray .int, 2) := by decide +kernel
theorem dX1_init_9 : decode cX1_init 9 = .ok (.putfield 9, 3) := by decide +kernel
theorem dX1_init_12 : decode cX1_init 12 = .ok (.aload_n 0, 1) := by decide +kernel
theorem dX1_init_13 : decode cX1_init 13 = .ok (.bipush 24, 2) := by decide +kernel
theorem dX1_init_15 : decode cX1_init 15 = .ok (.newarray .int, 2) := by decide +kernel
theorem dX1_init_17 : decode cX1_init 17 = .ok (.putfield 15, 3) := by decide +kernel
theorem dX1_init_20 : decode cX1_init 20 = .ok (.aload_n 0, 1) := by decide +kernel
theorem dX1_init_21 : decode cX1_init 21 = .ok (.bipush 24, 2) := by decide +kernel
theorem dX1_init_23 : decode cX1_init 23 = .ok (.newarray .int, 2) := by decide +kernel
theorem dX1_init_25 : decode cX1_init 25 = .ok (.putfield 18, 3) := by decide +kernel
theorem dX1_init_28 : decode cX1_init 28 = .ok (.aload_n 0, 1) := by decide +kernel
theorem dX1_init_29 : decode cX1_init 29 = .ok (.bipush 24, 2) := by decide +kernel
theorem dX1_init_31 : decode cX1_init 31 = .ok (.newarray .int, 2) := by decide +kernel
theorem dX1_init_33 : decode cX1_init 33 = .ok (.putfield 21, 3) := by decide +kernel
theorem dX1_init_36 : decode cX1_init 36 = .ok (.aload_n 0, 1) := by decide +kernel
theorem dX1_init_37 : decode cX1_init 37 = .ok (.bipush 24, 2) := by decide +kernel
theorem dX1_init_39 : decode cX1_init 39 = .ok (.newarray .int, 2) := by decide +kernel
theorem dX1_init_41 : decode cX1_init 41 = .ok (.putfield 24, 3) := by decide +kernel
theorem dX1_init_44 : decode cX1_init 44 = .ok (.return_, 1) := by decide +kernel
theorem dX1_copyFrom_0 : decode cX1_copyFrom 0 = .ok (.aload_n 0, 1) := by decide +kernel
theorem dX1_copyFrom_1 : decode cX1_copyFrom 1 = .ok (.aload_n 1, 1) := by decide +kernel
theorem dX1_copyFrom_2 : decode cX1_copyFrom 2 = .ok (.getfield 27, 3) := by decide +kernel
theorem dX1_copyFrom_5 : decode cX1_copyFrom 5 = .ok (.putfield 27, 3) := by decide +kernel
theorem dX1_copyFrom_8 : decode cX1_copyFrom 8 = .ok (.aload_n 1, 1) := by decide +kernel
theorem dX1_copyFrom_9 : decode cX1_copyFrom 9 = .ok (.getfield 9, 3) := by decide +kernel
theorem dX1_copyFrom_12 : decode cX1_copyFrom 12 = .ok (.aload_n 0, 1) := by decide +kernel
theorem dX1_copyFrom_13 : decode cX1_copyFrom 13 = .ok (.getfield 9, 3) := by decide +kernel
theorem dX1_copyFrom_16 : decode cX1_copyFrom 16 = .ok (.invokestatic 31, 3) := by decide +kernel
theorem dX1_copyFrom_19 : decode cX1_copyFrom 19 = .ok (.aload_n 1, 1) := by decide +kernel
theorem dX1_copyFrom_20 : decode cX1_copyFrom 20 = .ok (.getfield 15, 3) := by decide +kernel
theorem dX1_copyFrom_23 : decode cX1_copyFrom 23 = .ok (.aload_n 0, 1) := by decide +kernel
theorem dX1_copyFrom_24 : decode cX1_copyFrom 24 = .ok (.getfield 15, 3) := by decide +kernel
theorem dX1_copyFrom_27 : decode cX1_copyFrom 27 = .ok (.invokestatic 31, 3) := by decide +kernel
theorem dX1_copyFrom_30 : decode cX1_copyFrom 30 = .ok (.aload_n 1, 1) := by decide +kernel
theorem dX1_copyFrom_31 : decode cX1_copyFrom 31 = .ok (.getfield 18, 3) := by decide +kernel
theorem dX1_copyFrom_34 : decode cX1_copyFrom 34 = .ok (.aload_n 0, 1) := by decide +kernel
theorem dX1_copyFrom_35 : decode cX1_copyFrom 35 = .ok (.getfield 18, 3) := by decide +kernel
theorem dX1_copyFrom_38 : decode cX1_copyFrom 38 = .ok (.invokestatic 31, 3) := by decide +kernel
theorem dX1_copyFrom_41 : decode cX1_copyFrom 41 = .ok (.aload_n 1, 1) := by decide +kernel
theorem dX1_copyFrom_42 : decode cX1_copyFrom 42 = .ok (.getfield 21, 3) := by decide +kernel
theorem dX1_copyFrom_45 : decode cX1_copyFrom 45 = .ok (.aload_n 0, 1) := by decide +kernel
theorem dX1_copyFrom_46 : decode cX1_copyFrom 46 = .ok (.getfield 21, 3) := by decide +kernel
theorem dX1_copyFrom_49 : decode cX1_copyFrom 49 = .ok (.invokestatic 31, 3) := by decide +kernel
theorem dX1_copyFrom_52 : decode cX1_copyFrom 52 = .ok (.aload_n 1, 1) := by decide +kernel
theorem dX1_copyFrom_53 : decode cX1_copyFrom 53 = .ok (.getfield 24, 3) := by decide +kernel
theorem dX1_copyFrom_56 : decode cX1_copyFrom 56 = .ok (.aload_n 0, 1) := by decide +kernel
theorem dX1_copyFrom_57 : decode cX1_copyFrom 57 = .ok (.getfield 24, 3) := by decide +kernel
theorem dX1_copyFrom_60 : decode cX1_copyFrom 60 = .ok (.invokestatic 31, 3) := by decide +kernel
theorem dX1_copyFrom_63 : decode cX1_copyFrom 63 = .ok (.return_, 1) := by decide +kernel
theorem dX1_has_0 : decode cX1_has 0 = .ok (.iload_n 1, 1) := by decide +kernel
theorem dX1_has_1 : decode cX1_has 1 = .ok (.ifCond .lt 15, 3) := by decide +kernel
theorem dX1_has_4 : decode cX1_has 4 = .ok (.iload_n 1, 1) := by decide +kernel
theorem dX1_has_5 : decode cX1_has 5 = .ok (.aload_n 0, 1) := by decide +kernel
theorem dX1_has_6 : decode cX1_has 6 = .ok (.getfield 27, 3) := by decide +kernel
theorem dX1_has_9 : decode cX1_has 9 = .ok (.if_icmp .ge 7, 3) := by decide +kernel
theorem dX1_has_12 : decode cX1_has 12 = .ok (.iconst 1, 1) := by decide +kernel
theorem dX1_has_13 : decode cX1_has 13 = .ok (.goto 4, 3) := by decide +kernel
theorem dX1_has_16 : decode cX1_has 16 = .ok (.iconst 0, 1) := by decide +kernel
theorem dX1_has_17 : decode cX1_has 17 = .ok (.ireturn, 1) := by decide +kernel
theorem dX1_feeFor_0 : decode cX1_feeFor 0 = .ok (.iload_n 1, 1) := by decide +kernel
theorem dX1_feeFor_1 : decode cX1_feeFor 1 = .ok (.iload_n 0, 1) := by decide +kernel
theorem dX1_feeFor_2 : decode cX1_feeFor 2 = .ok (.iload_n 0, 1) := by decide +kernel
theorem dX1_feeFor_3 : decode cX1_feeFor 3 = .ok (.bipush 7, 2) := by decide +kernel
theorem dX1_feeFor_5 : decode cX1_feeFor 5 = .ok (.idiv, 1) := by decide +kernel
theorem dX1_feeFor_6 : decode cX1_feeFor 6 = .ok (.isub, 1) := by decide +kernel
theorem dX1_feeFor_7 : decode cX1_feeFor 7 = .ok (.imul, 1) := by decide +kernel
theorem dX1_feeFor_8 : decode cX1_feeFor 8 = .ok (.ireturn, 1) := by decide +kernel
theorem dX1_add_0 : decode cX1_add 0 = .ok (.iload_n 3, 1) := by decide +kernel
theorem dX1_add_1 : decode cX1_add 1 = .ok (.iload 4, 2) := by decide +kernel
theorem dX1_add_3 : decode cX1_add 3 = .ok (.invokestatic 35, 3) := by decide +kernel
theorem dX1_add_6 : decode cX1_add 6 = .ok (.istore 5, 2) := by decide +kernel
theorem dX1_add_8 : decode cX1_add 8 = .ok (.aload_n 0, 1) := by decide +kernel
theorem dX1_add_9 : decode cX1_add 9 = .ok (.getfield 9, 3) := by decide +kernel
theorem dX1_add_12 : decode cX1_add 12 = .ok (.aload_n 0, 1) := by decide +kernel
theorem dX1_add_13 : decode cX1_add 13 = .ok (.getfield 27, 3) := by decide +kernel
theorem dX1_add_16 : decode cX1_add 16 = .ok (.iload_n 1, 1) := by decide +kernel
theorem dX1_add_17 : decode cX1_add 17 = .ok (.invokestatic 39, 3) := by decide +kernel
theorem dX1_add_20 : decode cX1_add 20 = .ok (.aload_n 0, 1) := by decide +kernel
theorem dX1_add_21 : decode cX1_add 21 = .ok (.getfield 15, 3) := by decide +kernel
theorem dX1_add_24 : decode cX1_add 24 = .ok (.aload_n 0, 1) := by decide +kernel
theorem dX1_add_25 : decode cX1_add 25 = .ok (.getfield 27, 3) := by decide +kernel
theorem dX1_add_28 : decode cX1_add 28 = .ok (.iload_n 2, 1) := by decide +kernel
theorem dX1_add_29 : decode cX1_add 29 = .ok (.invokestatic 39, 3) := by decide +kernel
theorem dX1_add_32 : decode cX1_add 32 = .ok (.aload_n 0, 1) := by decide +kernel
theorem dX1_add_33 : decode cX1_add 33 = .ok (.getfield 18, 3) := by decide +kernel
theorem dX1_add_36 : decode cX1_add 36 = .ok (.aload_n 0, 1) := by decide +kernel
theorem dX1_add_37 : decode cX1_add 37 = .ok (.getfield 27, 3) := by decide +kernel
theorem dX1_add_40 : decode cX1_add 40 = .ok (.iload_n 3, 1) := by decide +kernel
theorem dX1_add_41 : decode cX1_add 41 = .ok (.invokestatic 39, 3) := by decide +kernel
theorem dX1_add_44 : decode cX1_add 44 = .ok (.aload_n 0, 1) := by decide +kernel
theorem dX1_add_45 : decode cX1_add 45 = .ok (.getfield 21, 3) := by decide +kernel
theorem dX1_add_48 : decode cX1_add 48 = .ok (.aload_n 0, 1) := by decide +kernel
theorem dX1_add_49 : decode cX1_add 49 = .ok (.getfield 27, 3) := by decide +kernel
theorem dX1_add_52 : decode cX1_add 52 = .ok (.iload 4, 2) := by decide +kernel
theorem dX1_add_54 : decode cX1_add 54 = .ok (.invokestatic 39, 3) := by decide +kernel
theorem dX1_add_57 : decode cX1_add 57 = .ok (.aload_n 0, 1) := by decide +kernel
theorem dX1_add_58 : decode cX1_add 58 = .ok (.getfield 24, 3) := by decide +kernel
theorem dX1_add_61 : decode cX1_add 61 = .ok (.aload_n 0, 1) := by decide +kernel
theorem dX1_add_62 : decode cX1_add 62 = .ok (.getfield 27, 3) := by decide +kernel
theorem dX1_add_65 : decode cX1_add 65 = .ok (.iload 5, 2) := by decide +kernel
theorem dX1_add_67 : decode cX1_add 67 = .ok (.invokestatic 39, 3) := by decide +kernel
theorem dX1_add_70 : decode cX1_add 70 = .ok (.aload_n 0, 1) := by decide +kernel
theorem dX1_add_71 : decode cX1_add 71 = .ok (.dup, 1) := by decide +kernel
theorem dX1_add_72 : decode cX1_add 72 = .ok (.getfield 27, 3) := by decide +kernel
theorem dX1_add_75 : decode cX1_add 75 = .ok (.iconst 1, 1) := by decide +kernel
theorem dX1_add_76 : decode cX1_add 76 = .ok (.iadd, 1) := by decide +kernel
theorem dX1_add_77 : decode cX1_add 77 = .ok (.putfield 27, 3) := by decide +kernel
theorem dX1_add_80 : decode cX1_add 80 = .ok (.iload 5, 2) := by decide +kernel
theorem dX1_add_82 : decode cX1_add 82 = .ok (.ireturn, 1) := by decide +kernel
theorem dX1_dayAfter_0 : decode cX1_dayAfter 0 = .ok (.aload_n 0, 1) := by decide +kernel
theorem dX1_dayAfter_1 : decode cX1_dayAfter 1 = .ok (.getfield 15, 3) := by decide +kernel
theorem dX1_dayAfter_4 : decode cX1_dayAfter 4 = .ok (.iload_n 1, 1) := by decide +kernel
theorem dX1_dayAfter_5 : decode cX1_dayAfter 5 = .ok (.invokestatic 43, 3) := by decide +kernel
theorem dX1_dayAfter_8 : decode cX1_dayAfter 8 = .ok (.aload_n 0, 1) := by decide +kernel
theorem dX1_dayAfter_9 : decode cX1_dayAfter 9 = .ok (.getfield 18, 3) := by decide +kernel
theorem dX1_dayAfter_12 : decode cX1_dayAfter 12 = .ok (.iload_n 1, 1) := by decide +kernel
theorem dX1_dayAfter_13 : decode cX1_dayAfter 13 = .ok (.invokestatic 43, 3) := by decide +kernel
theorem dX1_dayAfter_16 : decode cX1_dayAfter 16 = .ok (.iadd, 1) := by decide +kernel
theorem dX1_dayAfter_17 : decode cX1_dayAfter 17 = .ok (.ireturn, 1) := by decide +kernel
theorem dX1_overlapping_0 : decode cX1_overlapping 0 = .ok (.iconst 0, 1) := by decide +kernel
theorem dX1_overlapping_1 : decode cX1_overlapping 1 = .ok (.istore 4, 2) := by decide +kernel
theorem dX1_overlapping_3 : decode cX1_overlapping 3 = .ok (.iload 4, 2) := by decide +kernel
theorem dX1_overlapping_5 : decode cX1_overlapping 5 = .ok (.aload_n 0, 1) := by decide +kernel
theorem dX1_overlapping_6 : decode cX1_overlapping 6 = .ok (.getfield 27, 3) := by decide +kernel
theorem dX1_overlapping_9 : decode cX1_overlapping 9 = .ok (.if_icmp .ge 50, 3) := by decide +kernel
theorem dX1_overlapping_12 : decode cX1_overlapping 12 = .ok (.aload_n 0, 1) := by decide +kernel
theorem dX1_overlapping_13 : decode cX1_overlapping 13 = .ok (.getfield 9, 3) := by decide +kernel
theorem dX1_overlapping_16 : decode cX1_overlapping 16 = .ok (.iload 4, 2) := by decide +kernel
theorem dX1_overlapping_18 : decode cX1_overlapping 18 = .ok (.invokestatic 43, 3) := by decide +kernel
theorem dX1_overlapping_21 : decode cX1_overlapping 21 = .ok (.iload_n 1, 1) := by decide +kernel
theorem dX1_overlapping_22 : decode cX1_overlapping 22 = .ok (.if_icmp .ne 31, 3) := by decide +kernel
theorem dX1_overlapping_25 : decode cX1_overlapping 25 = .ok (.aload_n 0, 1) := by decide +kernel
theorem dX1_overlapping_26 : decode cX1_overlapping 26 = .ok (.getfield 15, 3) := by decide +kernel
theorem dX1_overlapping_29 : decode cX1_overlapping 29 = .ok (.iload 4, 2) := by decide +kernel
theorem dX1_overlapping_31 : decode cX1_overlapping 31 = .ok (.invokestatic 43, 3) := by decide +kernel
theorem dX1_overlapping_34 : decode cX1_overlapping 34 = .ok (.iload_n 2, 1) := by decide +kernel
theorem dX1_overlapping_35 : decode cX1_overlapping 35 = .ok (.iload_n 3, 1) := by decide +kernel
theorem dX1_overlapping_36 : decode cX1_overlapping 36 = .ok (.iadd, 1) := by decide +kernel
theorem dX1_overlapping_37 : decode cX1_overlapping 37 = .ok (.if_icmp .ge 16, 3) := by decide +kernel
theorem dX1_overlapping_40 : decode cX1_overlapping 40 = .ok (.iload_n 2, 1) := by decide +kernel
theorem dX1_overlapping_41 : decode cX1_overlapping 41 = .ok (.aload_n 0, 1) := by decide +kernel
theorem dX1_overlapping_42 : decode cX1_overlapping 42 = .ok (.iload 4, 2) := by decide +kernel
theorem dX1_overlapping_44 : decode cX1_overlapping 44 = .ok (.invokevirtual 47, 3) := by decide +kernel
theorem dX1_overlapping_47 : decode cX1_overlapping 47 = .ok (.if_icmp .ge 6, 3) := by decide +kernel
theorem dX1_overlapping_50 : decode cX1_overlapping 50 = .ok (.iload 4, 2) := by decide +kernel
theorem dX1_overlapping_52 : decode cX1_overlapping 52 = .ok (.ireturn, 1) := by decide +kernel
theorem dX1_overlapping_53 : decode cX1_overlapping 53 = .ok (.iinc 4 1, 3) := by decide +kernel
theorem dX1_overlapping_56 : decode cX1_overlapping 56 = .ok (.goto (-53), 3) := by decide +kernel
theorem dX1_overlapping_59 : decode cX1_overlapping 59 = .ok (.iconst (-1), 1) := by decide +kernel
theorem dX1_overlapping_60 : decode cX1_overlapping 60 = .ok (.ireturn, 1) := by decide +kernel
theorem dX1_hiresOf_0 : decode cX1_hiresOf 0 = .ok (.iconst 0, 1) := by decide +kernel
theorem dX1_hiresOf_1 : decode cX1_hiresOf 1 = .ok (.istore_n 2, 1) := by decide +kernel
theorem dX1_hiresOf_2 : decode cX1_hiresOf 2 = .ok (.iconst 0, 1) := by decide +kernel
theorem dX1_hiresOf_3 : decode cX1_hiresOf 3 = .ok (.istore_n 3, 1) := by decide +kernel
theorem dX1_hiresOf_4 : decode cX1_hiresOf 4 = .ok (.iload_n 3, 1) := by decide +kernel
theorem dX1_hiresOf_5 : decode cX1_hiresOf 5 = .ok (.aload_n 0, 1) := by decide +kernel
theorem dX1_hiresOf_6 : decode cX1_hiresOf 6 = .ok (.getfield 27, 3) := by decide +kernel
theorem dX1_hiresOf_9 : decode cX1_hiresOf 9 = .ok (.if_icmp .ge 24, 3) := by decide +kernel
theorem dX1_hiresOf_12 : decode cX1_hiresOf 12 = .ok (.aload_n 0, 1) := by decide +kernel
theorem dX1_hiresOf_13 : decode cX1_hiresOf 13 = .ok (.getfield 9, 3) := by decide +kernel
theorem dX1_hiresOf_16 : decode cX1_hiresOf 16 = .ok (.iload_n 3, 1) := by decide +kernel
theorem dX1_hiresOf_17 : decode cX1_hiresOf 17 = .ok (.invokestatic 43, 3) := by decide +kernel
theorem dX1_hiresOf_20 : decode cX1_hiresOf 20 = .ok (.iload_n 1, 1) := by decide +kernel
theorem dX1_hiresOf_21 : decode cX1_hiresOf 21 = .ok (.if_icmp .ne 6, 3) := by decide +kernel
theorem dX1_hiresOf_24 : decode cX1_hiresOf 24 = .ok (.iinc 2 1, 3) := by decide +kernel
theorem dX1_hiresOf_27 : decode cX1_hiresOf 27 = .ok (.iinc 3 1, 3) := by decide +kernel
theorem dX1_hiresOf_30 : decode cX1_hiresOf 30 = .ok (.goto (-26), 3) := by decide +kernel
theorem dX1_hiresOf_33 : decode cX1_hiresOf 33 = .ok (.iload_n 2, 1) := by decide +kernel
theorem dX1_hiresOf_34 : decode cX1_hiresOf 34 = .ok (.ireturn, 1) := by decide +kernel
theorem dX1_canEnd_0 : decode cX1_canEnd 0 = .ok (.aload_n 0, 1) := by decide +kernel
theorem dX1_canEnd_1 : decode cX1_canEnd 1 = .ok (.getfield 15, 3) := by decide +kernel
theorem dX1_canEnd_4 : decode cX1_canEnd 4 = .ok (.iload_n 1, 1) := by decide +kernel
theorem dX1_canEnd_5 : decode cX1_canEnd 5 = .ok (.invokestatic 43, 3) := by decide +kernel
theorem dX1_canEnd_8 : decode cX1_canEnd 8 = .ok (.iload_n 2, 1) := by decide +kernel
theorem dX1_canEnd_9 : decode cX1_canEnd 9 = .ok (.if_icmp .gt 18, 3) := by decide +kernel
theorem dX1_canEnd_12 : decode cX1_canEnd 12 = .ok (.iload_n 2, 1) := by decide +kernel
theorem dX1_canEnd_13 : decode cX1_canEnd 13 = .ok (.iconst 1, 1) := by decide +kernel
theorem dX1_canEnd_14 : decode cX1_canEnd 14 = .ok (.iadd, 1) := by decide +kernel
theorem dX1_canEnd_15 : decode cX1_canEnd 15 = .ok (.aload_n 0, 1) := by decide +kernel
theorem dX1_canEnd_16 : decode cX1_canEnd 16 = .ok (.iload_n 1, 1) := by decide +kernel
theorem dX1_canEnd_17 : decode cX1_canEnd 17 = .ok (.invokevirtual 47, 3) := by decide +kernel
theorem dX1_canEnd_20 : decode cX1_canEnd 20 = .ok (.if_icmp .ge 7, 3) := by decide +kernel
theorem dX1_canEnd_23 : decode cX1_canEnd 23 = .ok (.iconst 1, 1) := by decide +kernel
theorem dX1_canEnd_24 : decode cX1_canEnd 24 = .ok (.goto 4, 3) := by decide +kernel
theorem dX1_canEnd_27 : decode cX1_canEnd 27 = .ok (.iconst 0, 1) := by decide +kernel
theorem dX1_canEnd_28 : decode cX1_canEnd 28 = .ok (.ireturn, 1) := by decide +kernel
theorem dX1_end_0 : decode cX1_end 0 = .ok (.iload_n 2, 1) := by decide +kernel
theorem dX1_end_1 : decode cX1_end 1 = .ok (.aload_n 0, 1) := by decide +kernel
theorem dX1_end_2 : decode cX1_end 2 = .ok (.getfield 15, 3) := by decide +kernel
theorem dX1_end_5 : decode cX1_end 5 = .ok (.iload_n 1, 1) := by decide +kernel
theorem dX1_end_6 : decode cX1_end 6 = .ok (.invokestatic 43, 3) := by decide +kernel
theorem dX1_end_9 : decode cX1_end 9 = .ok (.isub, 1) := by decide +kernel
theorem dX1_end_10 : decode cX1_end 10 = .ok (.iconst 1, 1) := by decide +kernel
theorem dX1_end_11 : decode cX1_end 11 = .ok (.iadd, 1) := by decide +kernel
theorem dX1_end_12 : decode cX1_end 12 = .ok (.istore_n 3, 1) := by decide +kernel
theorem dX1_end_13 : decode cX1_end 13 = .ok (.aload_n 0, 1) := by decide +kernel
theorem dX1_end_14 : decode cX1_end 14 = .ok (.getfield 24, 3) := by decide +kernel
theorem dX1_end_17 : decode cX1_end 17 = .ok (.iload_n 1, 1) := by decide +kernel
theorem dX1_end_18 : decode cX1_end 18 = .ok (.invokestatic 43, 3) := by decide +kernel
theorem dX1_end_21 : decode cX1_end 21 = .ok (.iload_n 3, 1) := by decide +kernel
theorem dX1_end_22 : decode cX1_end 22 = .ok (.aload_n 0, 1) := by decide +kernel
theorem dX1_end_23 : decode cX1_end 23 = .ok (.getfield 21, 3) := by decide +kernel
theorem dX1_end_26 : decode cX1_end 26 = .ok (.iload_n 1, 1) := by decide +kernel
theorem dX1_end_27 : decode cX1_end 27 = .ok (.invokestatic 43, 3) := by decide +kernel
theorem dX1_end_30 : decode cX1_end 30 = .ok (.invokestatic 35, 3) := by decide +kernel
theorem dX1_end_33 : decode cX1_end 33 = .ok (.isub, 1) := by decide +kernel
theorem dX1_end_34 : decode cX1_end 34 = .ok (.iconst 2, 1) := by decide +kernel
theorem dX1_end_35 : decode cX1_end 35 = .ok (.idiv, 1) := by decide +kernel
theorem dX1_end_36 : decode cX1_end 36 = .ok (.istore 4, 2) := by decide +kernel
theorem dX1_end_38 : decode cX1_end 38 = .ok (.aload_n 0, 1) := by decide +kernel
theorem dX1_end_39 : decode cX1_end 39 = .ok (.getfield 18, 3) := by decide +kernel
theorem dX1_end_42 : decode cX1_end 42 = .ok (.iload_n 1, 1) := by decide +kernel
theorem dX1_end_43 : decode cX1_end 43 = .ok (.iload_n 3, 1) := by decide +kernel
theorem dX1_end_44 : decode cX1_end 44 = .ok (.invokestatic 39, 3) := by decide +kernel
theorem dX1_end_47 : decode cX1_end 47 = .ok (.aload_n 0, 1) := by decide +kernel
theorem dX1_end_48 : decode cX1_end 48 = .ok (.getfield 24, 3) := by decide +kernel
theorem dX1_end_51 : decode cX1_end 51 = .ok (.iload_n 1, 1) := by decide +kernel
theorem dX1_end_52 : decode cX1_end 52 = .ok (.aload_n 0, 1) := by decide +kernel
theorem dX1_end_53 : decode cX1_end 53 = .ok (.getfield 24, 3) := by decide +kernel
theorem dX1_end_56 : decode cX1_end 56 = .ok (.iload_n 1, 1) := by decide +kernel
theorem dX1_end_57 : decode cX1_end 57 = .ok (.invokestatic 43, 3) := by decide +kernel
theorem dX1_end_60 : decode cX1_end 60 = .ok (.iload 4, 2) := by decide +kernel
theorem dX1_end_62 : decode cX1_end 62 = .ok (.isub, 1) := by decide +kernel
theorem dX1_end_63 : decode cX1_end 63 = .ok (.invokestatic 39, 3) := by decide +kernel
theorem dX1_end_66 : decode cX1_end 66 = .ok (.iload 4, 2) := by decide +kernel
theorem dX1_end_68 : decode cX1_end 68 = .ok (.ireturn, 1) := by decide +kernel
theorem dX1_firstFree_0 : decode cX1_firstFree 0 = .ok (.iload_n 2, 1) := by decide +kernel
theorem dX1_firstFree_1 : decode cX1_firstFree 1 = .ok (.istore 4, 2) := by decide +kernel
theorem dX1_firstFree_3 : decode cX1_firstFree 3 = .ok (.iconst 0, 1) := by decide +kernel
theorem dX1_firstFree_4 : decode cX1_firstFree 4 = .ok (.istore 5, 2) := by decide +kernel
theorem dX1_firstFree_6 : decode cX1_firstFree 6 = .ok (.iload 5, 2) := by decide +kernel
theorem dX1_firstFree_8 : decode cX1_firstFree 8 = .ok (.bipush 24, 2) := by decide +kernel
theorem dX1_firstFree_10 : decode cX1_firstFree 10 = .ok (.if_icmp .gt 35, 3) := by decide +kernel
theorem dX1_firstFree_13 : decode cX1_firstFree 13 = .ok (.aload_n 0, 1) := by decide +kernel
theorem dX1_firstFree_14 : decode cX1_firstFree 14 = .ok (.iload_n 1, 1) := by decide +kernel
theorem dX1_firstFree_15 : decode cX1_firstFree 15 = .ok (.iload 4, 2) := by decide +kernel
theorem dX1_firstFree_17 : decode cX1_firstFree 17 = .ok (.iload_n 3, 1) := by decide +kernel
theorem dX1_firstFree_18 : decode cX1_firstFree 18 = .ok (.invokevirtual 51, 3) := by decide +kernel
theorem dX1_firstFree_21 : decode cX1_firstFree 21 = .ok (.istore 6, 2) := by decide +kernel
theorem dX1_firstFree_23 : decode cX1_firstFree 23 = .ok (.iload 6, 2) := by decide +kernel
theorem dX1_firstFree_25 : decode cX1_firstFree 25 = .ok (.ifCond .ge 6, 3) := by decide +kernel
theorem dX1_firstFree_28 : decode cX1_firstFree 28 = .ok (.iload 4, 2) := by decide +kernel
theorem dX1_firstFree_30 : decode cX1_firstFree 30 = .ok (.ireturn, 1) := by decide +kernel
theorem dX1_firstFree_31 : decode cX1_firstFree 31 = .ok (.aload_n 0, 1) := by decide +kernel
theorem dX1_firstFree_32 : decode cX1_firstFree 32 = .ok (.iload 6, 2) := by decide +kernel
theorem dX1_firstFree_34 : decode cX1_firstFree 34 = .ok (.invokevirtual 47, 3) := by decide +kernel
theorem dX1_firstFree_37 : decode cX1_firstFree 37 = .ok (.istore 4, 2) := by decide +kernel
theorem dX1_firstFree_39 : decode cX1_firstFree 39 = .ok (.iinc 5 1, 3) := by decide +kernel
theorem dX1_firstFree_42 : decode cX1_firstFree 42 = .ok (.goto (-36), 3) := by decide +kernel
theorem dX1_firstFree_45 : decode cX1_firstFree 45 = .ok (.iload 4, 2) := by decide +kernel
theorem dX1_firstFree_47 : decode cX1_firstFree 47 = .ok (.ireturn, 1) := by decide +kernel
theorem dX2_init_0 : decode cX2_init 0 = .ok (.aload_n 0, 1) := by decide +kernel
theorem dX2_init_1 : decode cX2_init 1 = .ok (.invokespecial 3, 3) := by decide +kernel
theorem dX2_init_4 : decode cX2_init 4 = .ok (.aload_n 0, 1) := by decide +kernel
theorem dX2_init_5 : decode cX2_init 5 = .ok (.iconst 5, 1) := by decide +kernel
theorem dX2_init_6 : decode cX2_init 6 = .ok (.anewarray 9, 3) := by decide +kernel
theorem dX2_init_9 : decode cX2_init 9 = .ok (.putfield 11, 3) := by decide +kernel
theorem dX2_init_12 : decode cX2_init 12 = .ok (.iconst 0, 1) := by decide +kernel
theorem dX2_init_13 : decode cX2_init 13 = .ok (.istore_n 1, 1) := by decide +kernel
theorem dX2_init_14 : decode cX2_init 14 = .ok (.iload_n 1, 1) := by decide +kernel
theorem dX2_init_15 : decode cX2_init 15 = .ok (.aload_n 0, 1) := by decide +kernel
theorem dX2_init_16 : decode cX2_init 16 = .ok (.getfield 11, 3) := by decide +kernel
theorem dX2_init_19 : decode cX2_init 19 = .ok (.arraylength, 1) := by decide +kernel
theorem dX2_init_20 : decode cX2_init 20 = .ok (.if_icmp .ge 22, 3) := by decide +kernel
theorem dX2_init_23 : decode cX2_init 23 = .ok (.aload_n 0, 1) := by decide +kernel
theorem dX2_init_24 : decode cX2_init 24 = .ok (.getfield 11, 3) := by decide +kernel
theorem dX2_init_27 : decode cX2_init 27 = .ok (.iload_n 1, 1) := by decide +kernel
theorem dX2_init_28 : decode cX2_init 28 = .ok (.new 9, 3) := by decide +kernel
theorem dX2_init_31 : decode cX2_init 31 = .ok (.dup, 1) := by decide +kernel
theorem dX2_init_32 : decode cX2_init 32 = .ok (.invokespecial 17, 3) := by decide +kernel
theorem dX2_init_35 : decode cX2_init 35 = .ok (.aastore, 1) := by decide +kernel
theorem dX2_init_36 : decode cX2_init 36 = .ok (.iinc 1 1, 3) := by decide +kernel
theorem dX2_init_39 : decode cX2_init 39 = .ok (.goto (-25), 3) := by decide +kernel
theorem dX2_init_42 : decode cX2_init 42 = .ok (.return_, 1) := by decide +kernel
theorem dX2_remember_0 : decode cX2_remember 0 = .ok (.aload_n 0, 1) := by decide +kernel
theorem dX2_remember_1 : decode cX2_remember 1 = .ok (.aload_n 0, 1) := by decide +kernel
theorem dX2_remember_2 : decode cX2_remember 2 = .ok (.getfield 18, 3) := by decide +kernel
theorem dX2_remember_5 : decode cX2_remember 5 = .ok (.invokevirtual 22, 3) := by decide +kernel
theorem dX2_remember_8 : decode cX2_remember 8 = .ok (.astore_n 2, 1) := by decide +kernel
theorem dX2_remember_9 : decode cX2_remember 9 = .ok (.aload_n 2, 1) := by decide +kernel
theorem dX2_remember_10 : decode cX2_remember 10 = .ok (.ifnonnull 4, 3) := by decide +kernel
theorem dX2_remember_13 : decode cX2_remember 13 = .ok (.return_, 1) := by decide +kernel
theorem dX2_remember_14 : decode cX2_remember 14 = .ok (.aload_n 2, 1) := by decide +kernel
theorem dX2_remember_15 : decode cX2_remember 15 = .ok (.aload_n 1, 1) := by decide +kernel
theorem dX2_remember_16 : decode cX2_remember 16 = .ok (.invokevirtual 26, 3) := by decide +kernel
theorem dX2_remember_19 : decode cX2_remember 19 = .ok (.aload_n 0, 1) := by decide +kernel
theorem dX2_remember_20 : decode cX2_remember 20 = .ok (.aload_n 0, 1) := by decide +kernel
theorem dX2_remember_21 : decode cX2_remember 21 = .ok (.getfield 18, 3) := by decide +kernel
theorem dX2_remember_24 : decode cX2_remember 24 = .ok (.iconst 1, 1) := by decide +kernel
theorem dX2_remember_25 : decode cX2_remember 25 = .ok (.iadd, 1) := by decide +kernel
theorem dX2_remember_26 : decode cX2_remember 26 = .ok (.iconst 5, 1) := by decide +kernel
theorem dX2_remember_27 : decode cX2_remember 27 = .ok (.if_icmp .ge 12, 3) := by decide +kernel
theorem dX2_remember_30 : decode cX2_remember 30 = .ok (.aload_n 0, 1) := by decide +kernel
theorem dX2_remember_31 : decode cX2_remember 31 = .ok (.getfield 18, 3) := by decide +kernel
theorem dX2_remember_34 : decode cX2_remember 34 = .ok (.iconst 1, 1) := by decide +kernel
theorem dX2_remember_35 : decode cX2_remember 35 = .ok (.iadd, 1) := by decide +kernel
theorem dX2_remember_36 : decode cX2_remember 36 = .ok (.goto 4, 3) := by decide +kernel
theorem dX2_remember_39 : decode cX2_remember 39 = .ok (.iconst 0, 1) := by decide +kernel
theorem dX2_remember_40 : decode cX2_remember 40 = .ok (.putfield 18, 3) := by decide +kernel
theorem dX2_remember_43 : decode cX2_remember 43 = .ok (.aload_n 0, 1) := by decide +kernel
theorem dX2_remember_44 : decode cX2_remember 44 = .ok (.aload_n 0, 1) := by decide +kernel
theorem dX2_remember_45 : decode cX2_remember 45 = .ok (.getfield 30, 3) := by decide +kernel
theorem dX2_remember_48 : decode cX2_remember 48 = .ok (.iconst 1, 1) := by decide +kernel
theorem dX2_remember_49 : decode cX2_remember 49 = .ok (.iadd, 1) := by decide +kernel
theorem dX2_remember_50 : decode cX2_remember 50 = .ok (.iconst 5, 1) := by decide +kernel
theorem dX2_remember_51 : decode cX2_remember 51 = .ok (.invokestatic 33, 3) := by decide +kernel
theorem dX2_remember_54 : decode cX2_remember 54 = .ok (.putfield 30, 3) := by decide +kernel
theorem dX2_remember_57 : decode cX2_remember 57 = .ok (.return_, 1) := by decide +kernel
theorem dX2_restore_0 : decode cX2_restore 0 = .ok (.aload_n 0, 1) := by decide +kernel
theorem dX2_restore_1 : decode cX2_restore 1 = .ok (.getfield 18, 3) := by decide +kernel
theorem dX2_restore_4 : decode cX2_restore 4 = .ok (.ifCond .le 12, 3) := by decide +kernel
theorem dX2_restore_7 : decode cX2_restore 7 = .ok (.aload_n 0, 1) := by decide +kernel
theorem dX2_restore_8 : decode cX2_restore 8 = .ok (.getfield 18, 3) := by decide +kernel
theorem dX2_restore_11 : decode cX2_restore 11 = .ok (.iconst 1, 1) := by decide +kernel
theorem dX2_restore_12 : decode cX2_restore 12 = .ok (.isub, 1) := by decide +kernel
theorem dX2_restore_13 : decode cX2_restore 13 = .ok (.goto 4, 3) := by decide +kernel
theorem dX2_restore_16 : decode cX2_restore 16 = .ok (.iconst 4, 1) := by decide +kernel
theorem dX2_restore_17 : decode cX2_restore 17 = .ok (.istore_n 2, 1) := by decide +kernel
theorem dX2_restore_18 : decode cX2_restore 18 = .ok (.aload_n 0, 1) := by decide +kernel
theorem dX2_restore_19 : decode cX2_restore 19 = .ok (.iload_n 2, 1) := by decide +kernel
theorem dX2_restore_20 : decode cX2_restore 20 = .ok (.invokevirtual 22, 3) := by decide +kernel
theorem dX2_restore_23 : decode cX2_restore 23 = .ok (.astore_n 3, 1) := by decide +kernel
theorem dX2_restore_24 : decode cX2_restore 24 = .ok (.aload_n 0, 1) := by decide +kernel
theorem dX2_restore_25 : decode cX2_restore 25 = .ok (.getfield 30, 3) := by decide +kernel
theorem dX2_restore_28 : decode cX2_restore 28 = .ok (.ifCond .le 7, 3) := by decide +kernel
theorem dX2_restore_31 : decode cX2_restore 31 = .ok (.aload_n 3, 1) := by decide +kernel
theorem dX2_restore_32 : decode cX2_restore 32 = .ok (.ifnonnull 4, 3) := by decide +kernel
theorem dX2_restore_35 : decode cX2_restore 35 = .ok (.return_, 1) := by decide +kernel
theorem dX2_restore_36 : decode cX2_restore 36 = .ok (.aload_n 1, 1) := by decide +kernel
theorem dX2_restore_37 : decode cX2_restore 37 = .ok (.aload_n 3, 1) := by decide +kernel
theorem dX2_restore_38 : decode cX2_restore 38 = .ok (.invokevirtual 26, 3) := by decide +kernel
theorem dX2_restore_41 : decode cX2_restore 41 = .ok (.aload_n 0, 1) := by decide +kernel
theorem dX2_restore_42 : decode cX2_restore 42 = .ok (.iload_n 2, 1) := by decide +kernel
theorem dX2_restore_43 : decode cX2_restore 43 = .ok (.putfield 18, 3) := by decide +kernel
theorem dX2_restore_46 : decode cX2_restore 46 = .ok (.aload_n 0, 1) := by decide +kernel
theorem dX2_restore_47 : decode cX2_restore 47 = .ok (.dup, 1) := by decide +kernel
theorem dX2_restore_48 : decode cX2_restore 48 = .ok (.getfield 30, 3) := by decide +kernel
theorem dX2_restore_51 : decode cX2_restore 51 = .ok (.iconst 1, 1) := by decide +kernel
theorem dX2_restore_52 : decode cX2_restore 52 = .ok (.isub, 1) := by decide +kernel
theorem dX2_restore_53 : decode cX2_restore 53 = .ok (.putfield 30, 3) := by decide +kernel
theorem dX2_restore_56 : decode cX2_restore 56 = .ok (.return_, 1) := by decide +kernel
theorem dX2_stateAt_0 : decode cX2_stateAt 0 = .ok (.iload_n 1, 1) := by decide +kernel
theorem dX2_stateAt_1 : decode cX2_stateAt 1 = .ok (.ifCond .lt 21, 3) := by decide +kernel
theorem dX2_stateAt_4 : decode cX2_stateAt 4 = .ok (.iload_n 1, 1) := by decide +kernel
theorem dX2_stateAt_5 : decode cX2_stateAt 5 = .ok (.aload_n 0, 1) := by decide +kernel
theorem dX2_stateAt_6 : decode cX2_stateAt 6 = .ok (.getfield 11, 3) := by decide +kernel
theorem dX2_stateAt_9 : decode cX2_stateAt 9 = .ok (.arraylength, 1) := by decide +kernel
theorem dX2_stateAt_10 : decode cX2_stateAt 10 = .ok (.if_icmp .ge 12, 3) := by decide +kernel
theorem dX2_stateAt_13 : decode cX2_stateAt 13 = .ok (.aload_n 0, 1) := by decide +kernel
theorem dX2_stateAt_14 : decode cX2_stateAt 14 = .ok (.getfield 11, 3) := by decide +kernel
theorem dX2_stateAt_17 : decode cX2_stateAt 17 = .ok (.iload_n 1, 1) := by decide +kernel
theorem dX2_stateAt_18 : decode cX2_stateAt 18 = .ok (.aaload, 1) := by decide +kernel
theorem dX2_stateAt_19 : decode cX2_stateAt 19 = .ok (.goto 4, 3) := by decide +kernel
theorem dX2_stateAt_22 : decode cX2_stateAt 22 = .ok (.aconst_null, 1) := by decide +kernel
theorem dX2_stateAt_23 : decode cX2_stateAt 23 = .ok (.areturn, 1) := by decide +kernel
theorem dX3_init_0 : decode cX3_init 0 = .ok (.aload_n 0, 1) := by decide +kernel
theorem dX3_init_1 : decode cX3_init 1 = .ok (.invokespecial 3, 3) := by decide +kernel
theorem dX3_init_4 : decode cX3_init 4 = .ok (.aload_n 0, 1) := by decide +kernel
theorem dX3_init_5 : decode cX3_init 5 = .ok (.aload_n 1, 1) := by decide +kernel
theorem dX3_init_6 : decode cX3_init 6 = .ok (.putfield 9, 3) := by decide +kernel
theorem dX3_init_9 : decode cX3_init 9 = .ok (.aload_n 0, 1) := by decide +kernel
theorem dX3_init_10 : decode cX3_init 10 = .ok (.sipush 168, 3) := by decide +kernel
theorem dX3_init_13 : decode cX3_init 13 = .ok (.newarray .int, 2) := by decide +kernel
theorem dX3_init_15 : decode cX3_init 15 = .ok (.putfield 15, 3) := by decide +kernel
theorem dX3_init_18 : decode cX3_init 18 = .ok (.return_, 1) := by decide +kernel
theorem dX3_part_0 : decode cX3_part 0 = .ok (.aload_n 0, 1) := by decide +kernel
theorem dX3_part_1 : decode cX3_part 1 = .ok (.getfield 15, 3) := by decide +kernel
theorem dX3_part_4 : decode cX3_part 4 = .ok (.iload_n 1, 1) := by decide +kernel
theorem dX3_part_5 : decode cX3_part 5 = .ok (.bipush 7, 2) := by decide +kernel
theorem dX3_part_7 : decode cX3_part 7 = .ok (.imul, 1) := by decide +kernel
theorem dX3_part_8 : decode cX3_part 8 = .ok (.iload_n 2, 1) := by decide +kernel
theorem dX3_part_9 : decode cX3_part 9 = .ok (.iadd, 1) := by decide +kernel
theorem dX3_part_10 : decode cX3_part 10 = .ok (.invokestatic 19, 3) := by decide +kernel
theorem dX3_part_13 : decode cX3_part 13 = .ok (.ireturn, 1) := by decide +kernel
theorem dX3_keep_0 : decode cX3_keep 0 = .ok (.aload_n 0, 1) := by decide +kernel
theorem dX3_keep_1 : decode cX3_keep 1 = .ok (.getfield 15, 3) := by decide +kernel
theorem dX3_keep_4 : decode cX3_keep 4 = .ok (.aload_n 0, 1) := by decide +kernel
theorem dX3_keep_5 : decode cX3_keep 5 = .ok (.getfield 23, 3) := by decide +kernel
theorem dX3_keep_8 : decode cX3_keep 8 = .ok (.bipush 7, 2) := by decide +kernel
theorem dX3_keep_10 : decode cX3_keep 10 = .ok (.imul, 1) := by decide +kernel
theorem dX3_keep_11 : decode cX3_keep 11 = .ok (.iload_n 1, 1) := by decide +kernel
theorem dX3_keep_12 : decode cX3_keep 12 = .ok (.iadd, 1) := by decide +kernel
theorem dX3_keep_13 : decode cX3_keep 13 = .ok (.iload_n 2, 1) := by decide +kernel
theorem dX3_keep_14 : decode cX3_keep 14 = .ok (.invokestatic 27, 3) := by decide +kernel
theorem dX3_keep_17 : decode cX3_keep 17 = .ok (.return_, 1) := by decide +kernel
theorem dX3_readAll_0 : decode cX3_readAll 0 = .ok (.aload_n 0, 1) := by decide +kernel
theorem dX3_readAll_1 : decode cX3_readAll 1 = .ok (.bipush 16, 2) := by decide +kernel
theorem dX3_readAll_3 : decode cX3_readAll 3 = .ok (.iload_n 1, 1) := by decide +kernel
theorem dX3_readAll_4 : decode cX3_readAll 4 = .ok (.isub, 1) := by decide +kernel
theorem dX3_readAll_5 : decode cX3_readAll 5 = .ok (.putfield 31, 3) := by decide +kernel
theorem dX3_readAll_8 : decode cX3_readAll 8 = .ok (.aload_n 0, 1) := by decide +kernel
theorem dX3_readAll_9 : decode cX3_readAll 9 = .ok (.bipush 8, 2) := by decide +kernel
theorem dX3_readAll_11 : decode cX3_readAll 11 = .ok (.iload_n 2, 1) := by decide +kernel
theorem dX3_readAll_12 : decode cX3_readAll 12 = .ok (.isub, 1) := by decide +kernel
theorem dX3_readAll_13 : decode cX3_readAll 13 = .ok (.putfield 34, 3) := by decide +kernel
theorem dX3_readAll_16 : decode cX3_readAll 16 = .ok (.aload_n 0, 1) := by decide +kernel
theorem dX3_readAll_17 : decode cX3_readAll 17 = .ok (.iconst 0, 1) := by decide +kernel
theorem dX3_readAll_18 : decode cX3_readAll 18 = .ok (.putfield 23, 3) := by decide +kernel
theorem dX3_readAll_21 : decode cX3_readAll 21 = .ok (.aload_n 0, 1) := by decide +kernel
theorem dX3_readAll_22 : decode cX3_readAll 22 = .ok (.iconst 0, 1) := by decide +kernel
theorem dX3_readAll_23 : decode cX3_readAll 23 = .ok (.putfield 37, 3) := by decide +kernel
theorem dX3_readAll_26 : decode cX3_readAll 26 = .ok (.aload_n 0, 1) := by decide +kernel
theorem dX3_readAll_27 : decode cX3_readAll 27 = .ok (.invokevirtual 40, 3) := by decide +kernel
theorem dX3_readAll_30 : decode cX3_readAll 30 = .ok (.iconst 0, 1) := by decide +kernel
theorem dX3_readAll_31 : decode cX3_readAll 31 = .ok (.istore_n 3, 1) := by decide +kernel
theorem dX3_readAll_32 : decode cX3_readAll 32 = .ok (.iload_n 3, 1) := by decide +kernel
theorem dX3_readAll_33 : decode cX3_readAll 33 = .ok (.bipush 120, 2) := by decide +kernel
theorem dX3_readAll_35 : decode cX3_readAll 35 = .ok (.if_icmp .ge 39, 3) := by decide +kernel
theorem dX3_readAll_38 : decode cX3_readAll 38 = .ok (.aload_n 0, 1) := by decide +kernel
theorem dX3_readAll_39 : decode cX3_readAll 39 = .ok (.getfield 43, 3) := by decide +kernel
theorem dX3_readAll_42 : decode cX3_readAll 42 = .ok (.ifCond .eq 32, 3) := by decide +kernel
theorem dX3_readAll_45 : decode cX3_readAll 45 = .ok (.aload_n 0, 1) := by decide +kernel
theorem dX3_readAll_46 : decode cX3_readAll 46 = .ok (.invokevirtual 46, 3) := by decide +kernel
theorem dX3_readAll_49 : decode cX3_readAll 49 = .ok (.ifCond .ne 5, 3) := by decide +kernel
theorem dX3_readAll_52 : decode cX3_readAll 52 = .ok (.iconst 0, 1) := by decide +kernel
theorem dX3_readAll_53 : decode cX3_readAll 53 = .ok (.ireturn, 1) := by decide +kernel
theorem dX3_readAll_54 : decode cX3_readAll 54 = .ok (.aload_n 0, 1) := by decide +kernel
theorem dX3_readAll_55 : decode cX3_readAll 55 = .ok (.dup, 1) := by decide +kernel
theorem dX3_readAll_56 : decode cX3_readAll 56 = .ok (.getfield 23, 3) := by decide +kernel
theorem dX3_readAll_59 : decode cX3_readAll 59 = .ok (.iconst 1, 1) := by decide +kernel
theorem dX3_readAll_60 : decode cX3_readAll 60 = .ok (.iadd, 1) := by decide +kernel
theorem dX3_readAll_61 : decode cX3_readAll 61 = .ok (.putfield 23, 3) := by decide +kernel
theorem dX3_readAll_64 : decode cX3_readAll 64 = .ok (.aload_n 0, 1) := by decide +kernel
theorem dX3_readAll_65 : decode cX3_readAll 65 = .ok (.invokevirtual 40, 3) := by decide +kernel
theorem dX3_readAll_68 : decode cX3_readAll 68 = .ok (.iinc 3 1, 3) := by decide +kernel
theorem dX3_readAll_71 : decode cX3_readAll 71 = .ok (.goto (-39), 3) := by decide +kernel
theorem dX3_readAll_74 : decode cX3_readAll 74 = .ok (.aload_n 0, 1) := by decide +kernel
theorem dX3_readAll_75 : decode cX3_readAll 75 = .ok (.getfield 43, 3) := by decide +kernel
theorem dX3_readAll_78 : decode cX3_readAll 78 = .ok (.ifCond .ne 7, 3) := by decide +kernel
theorem dX3_readAll_81 : decode cX3_readAll 81 = .ok (.iconst 1, 1) := by decide +kernel
theorem dX3_readAll_82 : decode cX3_readAll 82 = .ok (.goto 4, 3) := by decide +kernel
theorem dX3_readAll_85 : decode cX3_readAll 85 = .ok (.iconst 0, 1) := by decide +kernel
theorem dX3_readAll_86 : decode cX3_readAll 86 = .ok (.ireturn, 1) := by decide +kernel
theorem dX3_readItem_0 : decode cX3_readItem 0 = .ok (.aload_n 0, 1) := by decide +kernel
theorem dX3_readItem_1 : decode cX3_readItem 1 = .ok (.ldc 50, 2) := by decide +kernel
theorem dX3_readItem_3 : decode cX3_readItem 3 = .ok (.invokevirtual 52, 3) := by decide +kernel
theorem dX3_readItem_6 : decode cX3_readItem 6 = .ok (.istore_n 1, 1) := by decide +kernel
theorem dX3_readItem_7 : decode cX3_readItem 7 = .ok (.iload_n 1, 1) := by decide +kernel
theorem dX3_readItem_8 : decode cX3_readItem 8 = .ok (.ifCond .ne 12, 3) := by decide +kernel
theorem dX3_readItem_11 : decode cX3_readItem 11 = .ok (.aload_n 0, 1) := by decide +kernel
theorem dX3_readItem_12 : decode cX3_readItem 12 = .ok (.ldc 56, 2) := by decide +kernel
theorem dX3_readItem_14 : decode cX3_readItem 14 = .ok (.invokevirtual 52, 3) := by decide +kernel
theorem dX3_readItem_17 : decode cX3_readItem 17 = .ok (.ifCond .eq 11, 3) := by decide +kernel
theorem dX3_readItem_20 : decode cX3_readItem 20 = .ok (.aload_n 0, 1) := by decide +kernel
theorem dX3_readItem_21 : decode cX3_readItem 21 = .ok (.iload_n 1, 1) := by decide +kernel
theorem dX3_readItem_22 : decode cX3_readItem 22 = .ok (.invokevirtual 58, 3) := by decide +kernel
theorem dX3_readItem_25 : decode cX3_readItem 25 = .ok (.ifCond .ne 5, 3) := by decide +kernel
theorem dX3_readItem_28 : decode cX3_readItem 28 = .ok (.iconst 0, 1) := by decide +kernel
theorem dX3_readItem_29 : decode cX3_readItem 29 = .ok (.ireturn, 1) := by decide +kernel
theorem dX3_readItem_30 : decode cX3_readItem 30 = .ok (.aload_n 0, 1) := by decide +kernel
theorem dX3_readItem_31 : decode cX3_readItem 31 = .ok (.iconst 0, 1) := by decide +kernel
theorem dX3_readItem_32 : decode cX3_readItem 32 = .ok (.iload_n 1, 1) := by decide +kernel
theorem dX3_readItem_33 : decode cX3_readItem 33 = .ok (.ifCond .eq 7, 3) := by decide +kernel
theorem dX3_readItem_36 : decode cX3_readItem 36 = .ok (.iconst 0, 1) := by decide +kernel
theorem dX3_readItem_37 : decode cX3_readItem 37 = .ok (.goto 4, 3) := by decide +kernel
theorem dX3_readItem_40 : decode cX3_readItem 40 = .ok (.iconst 1, 1) := by decide +kernel
theorem dX3_readItem_41 : decode cX3_readItem 41 = .ok (.invokevirtual 62, 3) := by decide +kernel
theorem dX3_readItem_44 : decode cX3_readItem 44 = .ok (.iload_n 1, 1) := by decide +kernel
theorem dX3_readItem_45 : decode cX3_readItem 45 = .ok (.ifCond .eq 7, 3) := by decide +kernel
theorem dX3_readItem_48 : decode cX3_readItem 48 = .ok (.iconst 5, 1) := by decide +kernel
theorem dX3_readItem_49 : decode cX3_readItem 49 = .ok (.goto 4, 3) := by decide +kernel
theorem dX3_readItem_52 : decode cX3_readItem 52 = .ok (.iconst 3, 1) := by decide +kernel
theorem dX3_readItem_53 : decode cX3_readItem 53 = .ok (.istore_n 2, 1) := by decide +kernel
theorem dX3_readItem_54 : decode cX3_readItem 54 = .ok (.iconst 1, 1) := by decide +kernel
theorem dX3_readItem_55 : decode cX3_readItem 55 = .ok (.istore_n 3, 1) := by decide +kernel
theorem dX3_readItem_56 : decode cX3_readItem 56 = .ok (.iload_n 3, 1) := by decide +kernel
theorem dX3_readItem_57 : decode cX3_readItem 57 = .ok (.iload_n 2, 1) := by decide +kernel
theorem dX3_readItem_58 : decode cX3_readItem 58 = .ok (.if_icmp .gt 19, 3) := by decide +kernel
theorem dX3_readItem_61 : decode cX3_readItem 61 = .ok (.aload_n 0, 1) := by decide +kernel
theorem dX3_readItem_62 : decode cX3_readItem 62 = .ok (.iload_n 3, 1) := by decide +kernel
theorem dX3_readItem_63 : decode cX3_readItem 63 = .ok (.invokevirtual 66, 3) := by decide +kernel
theorem dX3_readItem_66 : decode cX3_readItem 66 = .ok (.ifCond .ne 5, 3) := by decide +kernel
theorem dX3_readItem_69 : decode cX3_readItem 69 = .ok (.iconst 0, 1) := by decide +kernel
theorem dX3_readItem_70 : decode cX3_readItem 70 = .ok (.ireturn, 1) := by decide +kernel
theorem dX3_readItem_71 : decode cX3_readItem 71 = .ok (.iinc 3 1, 3) := by decide +kernel
theorem dX3_readItem_74 : decode cX3_readItem 74 = .ok (.goto (-18), 3) := by decide +kernel
theorem dX3_readItem_77 : decode cX3_readItem 77 = .ok (.aload_n 0, 1) := by decide +kernel
theorem dX3_readItem_78 : decode cX3_readItem 78 = .ok (.invokevirtual 40, 3) := by decide +kernel
theorem dX3_readItem_81 : decode cX3_readItem 81 = .ok (.iload_n 1, 1) := by decide +kernel
theorem dX3_readItem_82 : decode cX3_readItem 82 = .ok (.ifCond .eq 16, 3) := by decide +kernel
theorem dX3_readItem_85 : decode cX3_readItem 85 = .ok (.aload_n 0, 1) := by decide +kernel
theorem dX3_readItem_86 : decode cX3_readItem 86 = .ok (.ldc 70, 2) := by decide +kernel
theorem dX3_readItem_88 : decode cX3_readItem 88 = .ok (.invokevirtual 52, 3) := by decide +kernel
theorem dX3_readItem_91 : decode cX3_readItem 91 = .ok (.ifCond .eq 7, 3) := by decide +kernel
theorem dX3_readItem_94 : decode cX3_readItem 94 = .ok (.iconst 1, 1) := by decide +kernel
theorem dX3_readItem_95 : decode cX3_readItem 95 = .ok (.goto 4, 3) := by decide +kernel
theorem dX3_readItem_98 : decode cX3_readItem 98 = .ok (.iconst 0, 1) := by decide +kernel
theorem dX3_readItem_99 : decode cX3_readItem 99 = .ok (.istore_n 3, 1) := by decide +kernel
theorem dX3_readItem_100 : decode cX3_readItem 100 = .ok (.aload_n 0, 1) := by decide +kernel
theorem dX3_readItem_101 : decode cX3_readItem 101 = .ok (.bipush 6, 2) := by decide +kernel
theorem dX3_readItem_103 : decode cX3_readItem 103 = .ok (.iload_n 3, 1) := by decide +kernel
theorem dX3_readItem_104 : decode cX3_readItem 104 = .ok (.ifCond .eq 7, 3) := by decide +kernel
theorem dX3_readItem_107 : decode cX3_readItem 107 = .ok (.iconst 1, 1) := by decide +kernel
theorem dX3_readItem_108 : decode cX3_readItem 108 = .ok (.goto 4, 3) := by decide +kernel
theorem dX3_readItem_111 : decode cX3_readItem 111 = .ok (.iconst 0, 1) := by decide +kernel
theorem dX3_readItem_112 : decode cX3_readItem 112 = .ok (.invokevirtual 62, 3) := by decide +kernel
theorem dX3_readItem_115 : decode cX3_readItem 115 = .ok (.iload_n 3, 1) := by decide +kernel
theorem dX3_readItem_116 : decode cX3_readItem 116 = .ok (.ifCond .eq 7, 3) := by decide +kernel
theorem dX3_readItem_119 : decode cX3_readItem 119 = .ok (.aload_n 0, 1) := by decide +kernel
theorem dX3_readItem_120 : decode cX3_readItem 120 = .ok (.invokevirtual 40, 3) := by decide +kernel
theorem dX3_readItem_123 : decode cX3_readItem 123 = .ok (.aload_n 0, 1) := by decide +kernel
theorem dX3_readItem_124 : decode cX3_readItem 124 = .ok (.getfield 43, 3) := by decide +kernel
theorem dX3_readItem_127 : decode cX3_readItem 127 = .ok (.iconst 3, 1) := by decide +kernel
theorem dX3_readItem_128 : decode cX3_readItem 128 = .ok (.if_icmp .ne 26, 3) := by decide +kernel
theorem dX3_readItem_131 : decode cX3_readItem 131 = .ok (.aload_n 0, 1) := by decide +kernel
theorem dX3_readItem_132 : decode cX3_readItem 132 = .ok (.getfield 9, 3) := by decide +kernel
theorem dX3_readItem_135 : decode cX3_readItem 135 = .ok (.getfield 72, 3) := by decide +kernel
theorem dX3_readItem_138 : decode cX3_readItem 138 = .ok (.aload_n 0, 1) := by decide +kernel
theorem dX3_readItem_139 : decode cX3_readItem 139 = .ok (.getfield 77, 3) := by decide +kernel
theorem dX3_readItem_142 : decode cX3_readItem 142 = .ok (.invokestatic 19, 3) := by decide +kernel
theorem dX3_readItem_145 : decode cX3_readItem 145 = .ok (.bipush 59, 2) := by decide +kernel
theorem dX3_readItem_147 : decode cX3_readItem 147 = .ok (.if_icmp .ne 7, 3) := by decide +kernel
theorem dX3_readItem_150 : decode cX3_readItem 150 = .ok (.iconst 1, 1) := by decide +kernel
theorem dX3_readItem_151 : decode cX3_readItem 151 = .ok (.goto 4, 3) := by decide +kernel
theorem dX3_readItem_154 : decode cX3_readItem 154 = .ok (.iconst 0, 1) := by decide +kernel
theorem dX3_readItem_155 : decode cX3_readItem 155 = .ok (.ireturn, 1) := by decide +kernel
theorem dX3_takePlace_0 : decode cX3_takePlace 0 = .ok (.iload_n 1, 1) := by decide +kernel
theorem dX3_takePlace_1 : decode cX3_takePlace 1 = .ok (.ifCond .eq 26, 3) := by decide +kernel
theorem dX3_takePlace_4 : decode cX3_takePlace 4 = .ok (.aload_n 0, 1) := by decide +kernel
theorem dX3_takePlace_5 : decode cX3_takePlace 5 = .ok (.dup, 1) := by decide +kernel
theorem dX3_takePlace_6 : decode cX3_takePlace 6 = .ok (.getfield 31, 3) := by decide +kernel
theorem dX3_takePlace_9 : decode cX3_takePlace 9 = .ok (.iconst 1, 1) := by decide +kernel
theorem dX3_takePlace_10 : decode cX3_takePlace 10 = .ok (.isub, 1) := by decide +kernel
theorem dX3_takePlace_11 : decode cX3_takePlace 11 = .ok (.putfield 31, 3) := by decide +kernel
theorem dX3_takePlace_14 : decode cX3_takePlace 14 = .ok (.aload_n 0, 1) := by decide +kernel
theorem dX3_takePlace_15 : decode cX3_takePlace 15 = .ok (.getfield 31, 3) := by decide +kernel
theorem dX3_takePlace_18 : decode cX3_takePlace 18 = .ok (.ifCond .lt 7, 3) := by decide +kernel
theorem dX3_takePlace_21 : decode cX3_takePlace 21 = .ok (.iconst 1, 1) := by decide +kernel
theorem dX3_takePlace_22 : decode cX3_takePlace 22 = .ok (.goto 4, 3) := by decide +kernel
theorem dX3_takePlace_25 : decode cX3_takePlace 25 = .ok (.iconst 0, 1) := by decide +kernel
theorem dX3_takePlace_26 : decode cX3_takePlace 26 = .ok (.ireturn, 1) := by decide +kernel
theorem dX3_takePlace_27 : decode cX3_takePlace 27 = .ok (.aload_n 0, 1) := by decide +kernel
theorem dX3_takePlace_28 : decode cX3_takePlace 28 = .ok (.dup, 1) := by decide +kernel
theorem dX3_takePlace_29 : decode cX3_takePlace 29 = .ok (.getfield 34, 3) := by decide +kernel
theorem dX3_takePlace_32 : decode cX3_takePlace 32 = .ok (.iconst 1, 1) := by decide +kernel
theorem dX3_takePlace_33 : decode cX3_takePlace 33 = .ok (.isub, 1) := by decide +kernel
theorem dX3_takePlace_34 : decode cX3_takePlace 34 = .ok (.putfield 34, 3) := by decide +kernel
theorem dX3_takePlace_37 : decode cX3_takePlace 37 = .ok (.aload_n 0, 1) := by decide +kernel
theorem dX3_takePlace_38 : decode cX3_takePlace 38 = .ok (.getfield 34, 3) := by decide +kernel
theorem dX3_takePlace_41 : decode cX3_takePlace 41 = .ok (.ifCond .lt 7, 3) := by decide +kernel
theorem dX3_takePlace_44 : decode cX3_takePlace 44 = .ok (.iconst 1, 1) := by decide +kernel
theorem dX3_takePlace_45 : decode cX3_takePlace 45 = .ok (.goto 4, 3) := by decide +kernel
theorem dX3_takePlace_48 : decode cX3_takePlace 48 = .ok (.iconst 0, 1) := by decide +kernel
theorem dX3_takePlace_49 : decode cX3_takePlace 49 = .ok (.ireturn, 1) := by decide +kernel
theorem dX3_readNumber_0 : decode cX3_readNumber 0 = .ok (.aload_n 0, 1) := by decide +kernel
theorem dX3_readNumber_1 : decode cX3_readNumber 1 = .ok (.invokevirtual 40, 3) := by decide +kernel
theorem dX3_readNumber_4 : decode cX3_readNumber 4 = .ok (.aload_n 0, 1) := by decide +kernel
theorem dX3_readNumber_5 : decode cX3_readNumber 5 = .ok (.getfield 37, 3) := by decide +kernel
theorem dX3_readNumber_8 : decode cX3_readNumber 8 = .ok (.aload_n 0, 1) := by decide +kernel
theorem dX3_readNumber_9 : decode cX3_readNumber 9 = .ok (.getfield 77, 3) := by decide +kernel
theorem dX3_readNumber_12 : decode cX3_readNumber 12 = .ok (.isub, 1) := by decide +kernel
theorem dX3_readNumber_13 : decode cX3_readNumber 13 = .ok (.iconst 1, 1) := by decide +kernel
theorem dX3_readNumber_14 : decode cX3_readNumber 14 = .ok (.if_icmp .le 26, 3) := by decide +kernel
theorem dX3_readNumber_17 : decode cX3_readNumber 17 = .ok (.aload_n 0, 1) := by decide +kernel
theorem dX3_readNumber_18 : decode cX3_readNumber 18 = .ok (.getfield 9, 3) := by decide +kernel
theorem dX3_readNumber_21 : decode cX3_readNumber 21 = .ok (.getfield 72, 3) := by decide +kernel
theorem dX3_readNumber_24 : decode cX3_readNumber 24 = .ok (.aload_n 0, 1) := by decide +kernel
theorem dX3_readNumber_25 : decode cX3_readNumber 25 = .ok (.getfield 77, 3) := by decide +kernel
theorem dX3_readNumber_28 : decode cX3_readNumber 28 = .ok (.invokestatic 19, 3) := by decide +kernel
theorem dX3_readNumber_31 : decode cX3_readNumber 31 = .ok (.bipush 48, 2) := by decide +kernel
theorem dX3_readNumber_33 : decode cX3_readNumber 33 = .ok (.if_icmp .ne 7, 3) := by decide +kernel
theorem dX3_readNumber_36 : decode cX3_readNumber 36 = .ok (.iconst 1, 1) := by decide +kernel
theorem dX3_readNumber_37 : decode cX3_readNumber 37 = .ok (.goto 4, 3) := by decide +kernel
theorem dX3_readNumber_40 : decode cX3_readNumber 40 = .ok (.iconst 0, 1) := by decide +kernel
theorem dX3_readNumber_41 : decode cX3_readNumber 41 = .ok (.istore_n 2, 1) := by decide +kernel
theorem dX3_readNumber_42 : decode cX3_readNumber 42 = .ok (.aload_n 0, 1) := by decide +kernel
theorem dX3_readNumber_43 : decode cX3_readNumber 43 = .ok (.getfield 43, 3) := by decide +kernel
theorem dX3_readNumber_46 : decode cX3_readNumber 46 = .ok (.iconst 2, 1) := by decide +kernel
theorem dX3_readNumber_47 : decode cX3_readNumber 47 = .ok (.if_icmp .ne 7, 3) := by decide +kernel
theorem dX3_readNumber_50 : decode cX3_readNumber 50 = .ok (.iload_n 2, 1) := by decide +kernel
theorem dX3_readNumber_51 : decode cX3_readNumber 51 = .ok (.ifCond .eq 5, 3) := by decide +kernel
theorem dX3_readNumber_54 : decode cX3_readNumber 54 = .ok (.iconst 0, 1) := by decide +kernel
theorem dX3_readNumber_55 : decode cX3_readNumber 55 = .ok (.ireturn, 1) := by decide +kernel
theorem dX3_readNumber_56 : decode cX3_readNumber 56 = .ok (.iconst 0, 1) := by decide +kernel
theorem dX3_readNumber_57 : decode cX3_readNumber 57 = .ok (.istore_n 3, 1) := by decide +kernel
theorem dX3_readNumber_58 : decode cX3_readNumber 58 = .ok (.aload_n 0, 1) := by decide +kernel
theorem dX3_readNumber_59 : decode cX3_readNumber 59 = .ok (.getfield 77, 3) := by decide +kernel
theorem dX3_readNumber_62 : decode cX3_readNumber 62 = .ok (.istore 4, 2) := by decide +kernel
theorem dX3_readNumber_64 : decode cX3_readNumber 64 = .ok (.iload 4, 2) := by decide +kernel
theorem dX3_readNumber_66 : decode cX3_readNumber 66 = .ok (.aload_n 0, 1) := by decide +kernel
theorem dX3_readNumber_67 : decode cX3_readNumber 67 = .ok (.getfield 37, 3) := by decide +kernel
theorem dX3_readNumber_70 : decode cX3_readNumber 70 = .ok (.if_icmp .ge 36, 3) := by decide +kernel
theorem dX3_readNumber_73 : decode cX3_readNumber 73 = .ok (.iload_n 3, 1) := by decide +kernel
theorem dX3_readNumber_74 : decode cX3_readNumber 74 = .ok (.bipush 10, 2) := by decide +kernel
theorem dX3_readNumber_76 : decode cX3_readNumber 76 = .ok (.imul, 1) := by decide +kernel
theorem dX3_readNumber_77 : decode cX3_readNumber 77 = .ok (.aload_n 0, 1) := by decide +kernel
theorem dX3_readNumber_78 : decode cX3_readNumber 78 = .ok (.getfield 9, 3) := by decide +kernel
theorem dX3_readNumber_81 : decode cX3_readNumber 81 = .ok (.getfield 72, 3) := by decide +kernel
theorem dX3_readNumber_84 : decode cX3_readNumber 84 = .ok (.iload 4, 2) := by decide +kernel
theorem dX3_readNumber_86 : decode cX3_readNumber 86 = .ok (.invokestatic 19, 3) := by decide +kernel
theorem dX3_readNumber_89 : decode cX3_readNumber 89 = .ok (.iadd, 1) := by decide +kernel
theorem dX3_readNumber_90 : decode cX3_readNumber 90 = .ok (.bipush 48, 2) := by decide +kernel
theorem dX3_readNumber_92 : decode cX3_readNumber 92 = .ok (.isub, 1) := by decide +kernel
theorem dX3_readNumber_93 : decode cX3_readNumber 93 = .ok (.sipush 1000, 3) := by decide +kernel
theorem dX3_readNumber_96 : decode cX3_readNumber 96 = .ok (.invokestatic 80, 3) := by decide +kernel
theorem dX3_readNumber_99 : decode cX3_readNumber 99 = .ok (.istore_n 3, 1) := by decide +kernel
theorem dX3_readNumber_100 : decode cX3_readNumber 100 = .ok (.iinc 4 1, 3) := by decide +kernel
theorem dX3_readNumber_103 : decode cX3_readNumber 103 = .ok (.goto (-39), 3) := by decide +kernel
theorem dX3_readNumber_106 : decode cX3_readNumber 106 = .ok (.aload_n 0, 1) := by decide +kernel
theorem dX3_readNumber_107 : decode cX3_readNumber 107 = .ok (.iload_n 1, 1) := by decide +kernel
theorem dX3_readNumber_108 : decode cX3_readNumber 108 = .ok (.iload_n 3, 1) := by decide +kernel
theorem dX3_readNumber_109 : decode cX3_readNumber 109 = .ok (.invokevirtual 62, 3) := by decide +kernel
theorem dX3_readNumber_112 : decode cX3_readNumber 112 = .ok (.iload_n 1, 1) := by decide +kernel
theorem dX3_readNumber_113 : decode cX3_readNumber 113 = .ok (.iload_n 3, 1) := by decide +kernel
theorem dX3_readNumber_114 : decode cX3_readNumber 114 = .ok (.invokestatic 86, 3) := by decide +kernel
theorem dX3_readNumber_117 : decode cX3_readNumber 117 = .ok (.ireturn, 1) := by decide +kernel
theorem dX3_isAllowed_0 : decode cX3_isAllowed 0 = .ok (.iload_n 0, 1) := by decide +kernel
theorem dX3_isAllowed_1 : decode cX3_isAllowed 1 = .ok (.lookupswitch 42 #[(4, 27), (5, 35)], 27) := by decide +kernel
theorem dX3_isAllowed_28 : decode cX3_isAllowed 28 = .ok (.iload_n 1, 1) := by decide +kernel
theorem dX3_isAllowed_29 : decode cX3_isAllowed 29 = .ok (.iconst 0, 1) := by decide +kernel
theorem dX3_isAllowed_30 : decode cX3_isAllowed 30 = .ok (.bipush 8, 2) := by decide +kernel
theorem dX3_isAllowed_32 : decode cX3_isAllowed 32 = .ok (.invokestatic 90, 3) := by decide +kernel
theorem dX3_isAllowed_35 : decode cX3_isAllowed 35 = .ok (.ireturn, 1) := by decide +kernel
theorem dX3_isAllowed_36 : decode cX3_isAllowed 36 = .ok (.iload_n 1, 1) := by decide +kernel
theorem dX3_isAllowed_37 : decode cX3_isAllowed 37 = .ok (.iconst 0, 1) := by decide +kernel
theorem dX3_isAllowed_38 : decode cX3_isAllowed 38 = .ok (.iconst 3, 1) := by decide +kernel
theorem dX3_isAllowed_39 : decode cX3_isAllowed 39 = .ok (.invokestatic 90, 3) := by decide +kernel
theorem dX3_isAllowed_42 : decode cX3_isAllowed 42 = .ok (.ireturn, 1) := by decide +kernel
theorem dX3_isAllowed_43 : decode cX3_isAllowed 43 = .ok (.iload_n 1, 1) := by decide +kernel
theorem dX3_isAllowed_44 : decode cX3_isAllowed 44 = .ok (.bipush 40, 2) := by decide +kernel
theorem dX3_isAllowed_46 : decode cX3_isAllowed 46 = .ok (.sipush 200, 3) := by decide +kernel
theorem dX3_isAllowed_49 : decode cX3_isAllowed 49 = .ok (.invokestatic 90, 3) := by decide +kernel
theorem dX3_isAllowed_52 : decode cX3_isAllowed 52 = .ok (.ireturn, 1) := by decide +kernel
theorem dX3_isWord_0 : decode cX3_isWord 0 = .ok (.aload_n 0, 1) := by decide +kernel
theorem dX3_isWord_1 : decode cX3_isWord 1 = .ok (.getfield 43, 3) := by decide +kernel
theorem dX3_isWord_4 : decode cX3_isWord 4 = .ok (.iconst 1, 1) := by decide +kernel
theorem dX3_isWord_5 : decode cX3_isWord 5 = .ok (.if_icmp .ne 19, 3) := by decide +kernel
theorem dX3_isWord_8 : decode cX3_isWord 8 = .ok (.aload_n 0, 1) := by decide +kernel
theorem dX3_isWord_9 : decode cX3_isWord 9 = .ok (.getfield 37, 3) := by decide +kernel
theorem dX3_isWord_12 : decode cX3_isWord 12 = .ok (.aload_n 0, 1) := by decide +kernel
theorem dX3_isWord_13 : decode cX3_isWord 13 = .ok (.getfield 77, 3) := by decide +kernel
theorem dX3_isWord_16 : decode cX3_isWord 16 = .ok (.isub, 1) := by decide +kernel
theorem dX3_isWord_17 : decode cX3_isWord 17 = .ok (.aload_n 1, 1) := by decide +kernel
theorem dX3_isWord_18 : decode cX3_isWord 18 = .ok (.invokevirtual 94, 3) := by decide +kernel
theorem dX3_isWord_21 : decode cX3_isWord 21 = .ok (.if_icmp .eq 5, 3) := by decide +kernel
theorem dX3_isWord_24 : decode cX3_isWord 24 = .ok (.iconst 0, 1) := by decide +kernel
theorem dX3_isWord_25 : decode cX3_isWord 25 = .ok (.ireturn, 1) := by decide +kernel
theorem dX3_isWord_26 : decode cX3_isWord 26 = .ok (.iconst 0, 1) := by decide +kernel
theorem dX3_isWord_27 : decode cX3_isWord 27 = .ok (.istore_n 2, 1) := by decide +kernel
theorem dX3_isWord_28 : decode cX3_isWord 28 = .ok (.iload_n 2, 1) := by decide +kernel
theorem dX3_isWord_29 : decode cX3_isWord 29 = .ok (.aload_n 1, 1) := by decide +kernel
theorem dX3_isWord_30 : decode cX3_isWord 30 = .ok (.invokevirtual 94, 3) := by decide +kernel
theorem dX3_isWord_33 : decode cX3_isWord 33 = .ok (.if_icmp .ge 35, 3) := by decide +kernel
theorem dX3_isWord_36 : decode cX3_isWord 36 = .ok (.aload_n 0, 1) := by decide +kernel
theorem dX3_isWord_37 : decode cX3_isWord 37 = .ok (.getfield 9, 3) := by decide +kernel
theorem dX3_isWord_40 : decode cX3_isWord 40 = .ok (.getfield 72, 3) := by decide +kernel
theorem dX3_isWord_43 : decode cX3_isWord 43 = .ok (.aload_n 0, 1) := by decide +kernel
theorem dX3_isWord_44 : decode cX3_isWord 44 = .ok (.getfield 77, 3) := by decide +kernel
theorem dX3_isWord_47 : decode cX3_isWord 47 = .ok (.iload_n 2, 1) := by decide +kernel
theorem dX3_isWord_48 : decode cX3_isWord 48 = .ok (.iadd, 1) := by decide +kernel
theorem dX3_isWord_49 : decode cX3_isWord 49 = .ok (.invokestatic 19, 3) := by decide +kernel
theorem dX3_isWord_52 : decode cX3_isWord 52 = .ok (.aload_n 1, 1) := by decide +kernel
theorem dX3_isWord_53 : decode cX3_isWord 53 = .ok (.iload_n 2, 1) := by decide +kernel
theorem dX3_isWord_54 : decode cX3_isWord 54 = .ok (.invokevirtual 100, 3) := by decide +kernel
theorem dX3_isWord_57 : decode cX3_isWord 57 = .ok (.if_icmp .eq 5, 3) := by decide +kernel
theorem dX3_isWord_60 : decode cX3_isWord 60 = .ok (.iconst 0, 1) := by decide +kernel
theorem dX3_isWord_61 : decode cX3_isWord 61 = .ok (.ireturn, 1) := by decide +kernel
theorem dX3_isWord_62 : decode cX3_isWord 62 = .ok (.iinc 2 1, 3) := by decide +kernel
theorem dX3_isWord_65 : decode cX3_isWord 65 = .ok (.goto (-37), 3) := by decide +kernel
theorem dX3_isWord_68 : decode cX3_isWord 68 = .ok (.iconst 1, 1) := by decide +kernel
theorem dX3_isWord_69 : decode cX3_isWord 69 = .ok (.ireturn, 1) := by decide +kernel
theorem dX3_nextToken_0 : decode cX3_nextToken 0 = .ok (.aload_n 0, 1) := by decide +kernel
theorem dX3_nextToken_1 : decode cX3_nextToken 1 = .ok (.aload_n 0, 1) := by decide +kernel
theorem dX3_nextToken_2 : decode cX3_nextToken 2 = .ok (.getfield 37, 3) := by decide +kernel
theorem dX3_nextToken_5 : decode cX3_nextToken 5 = .ok (.putfield 77, 3) := by decide +kernel
theorem dX3_nextToken_8 : decode cX3_nextToken 8 = .ok (.aload_n 0, 1) := by decide +kernel
theorem dX3_nextToken_9 : decode cX3_nextToken 9 = .ok (.getfield 77, 3) := by decide +kernel
theorem dX3_nextToken_12 : decode cX3_nextToken 12 = .ok (.aload_n 0, 1) := by decide +kernel
theorem dX3_nextToken_13 : decode cX3_nextToken 13 = .ok (.getfield 9, 3) := by decide +kernel
theorem dX3_nextToken_16 : decode cX3_nextToken 16 = .ok (.getfield 104, 3) := by decide +kernel
theorem dX3_nextToken_19 : decode cX3_nextToken 19 = .ok (.if_icmp .ge 35, 3) := by decide +kernel
theorem dX3_nextToken_22 : decode cX3_nextToken 22 = .ok (.aload_n 0, 1) := by decide +kernel
theorem dX3_nextToken_23 : decode cX3_nextToken 23 = .ok (.getfield 9, 3) := by decide +kernel
theorem dX3_nextToken_26 : decode cX3_nextToken 26 = .ok (.getfield 72, 3) := by decide +kernel
theorem dX3_nextToken_29 : decode cX3_nextToken 29 = .ok (.aload_n 0, 1) := by decide +kernel
theorem dX3_nextToken_30 : decode cX3_nextToken 30 = .ok (.getfield 77, 3) := by decide +kernel
theorem dX3_nextToken_33 : decode cX3_nextToken 33 = .ok (.invokestatic 19, 3) := by decide +kernel
theorem dX3_nextToken_36 : decode cX3_nextToken 36 = .ok (.bipush 32, 2) := by decide +kernel
theorem dX3_nextToken_38 : decode cX3_nextToken 38 = .ok (.if_icmp .ne 16, 3) := by decide +kernel
theorem dX3_nextToken_41 : decode cX3_nextToken 41 = .ok (.aload_n 0, 1) := by decide +kernel
theorem dX3_nextToken_42 : decode cX3_nextToken 42 = .ok (.dup, 1) := by decide +kernel
theorem dX3_nextToken_43 : decode cX3_nextToken 43 = .ok (.getfield 77, 3) := by decide +kernel
theorem dX3_nextToken_46 : decode cX3_nextToken 46 = .ok (.iconst 1, 1) := by decide +kernel
theorem dX3_nextToken_47 : decode cX3_nextToken 47 = .ok (.iadd, 1) := by decide +kernel
theorem dX3_nextToken_48 : decode cX3_nextToken 48 = .ok (.putfield 77, 3) := by decide +kernel
theorem dX3_nextToken_51 : decode cX3_nextToken 51 = .ok (.goto (-43), 3) := by decide +kernel
theorem dX3_nextToken_54 : decode cX3_nextToken 54 = .ok (.aload_n 0, 1) := by decide +kernel
theorem dX3_nextToken_55 : decode cX3_nextToken 55 = .ok (.aload_n 0, 1) := by decide +kernel
theorem dX3_nextToken_56 : decode cX3_nextToken 56 = .ok (.aload_n 0, 1) := by decide +kernel
theorem dX3_nextToken_57 : decode cX3_nextToken 57 = .ok (.getfield 77, 3) := by decide +kernel
theorem dX3_nextToken_60 : decode cX3_nextToken 60 = .ok (.invokevirtual 106, 3) := by decide +kernel
theorem dX3_nextToken_63 : decode cX3_nextToken 63 = .ok (.putfield 43, 3) := by decide +kernel
theorem dX3_nextToken_66 : decode cX3_nextToken 66 = .ok (.aload_n 0, 1) := by decide +kernel
theorem dX3_nextToken_67 : decode cX3_nextToken 67 = .ok (.aload_n 0, 1) := by decide +kernel
theorem dX3_nextToken_68 : decode cX3_nextToken 68 = .ok (.getfield 43, 3) := by decide +kernel
theorem dX3_nextToken_71 : decode cX3_nextToken 71 = .ok (.ifCond .ne 10, 3) := by decide +kernel
theorem dX3_nextToken_74 : decode cX3_nextToken 74 = .ok (.aload_n 0, 1) := by decide +kernel
theorem dX3_nextToken_75 : decode cX3_nextToken 75 = .ok (.getfield 77, 3) := by decide +kernel
theorem dX3_nextToken_78 : decode cX3_nextToken 78 = .ok (.goto 9, 3) := by decide +kernel
theorem dX3_nextToken_81 : decode cX3_nextToken 81 = .ok (.aload_n 0, 1) := by decide +kernel
theorem dX3_nextToken_82 : decode cX3_nextToken 82 = .ok (.getfield 77, 3) := by decide +kernel
theorem dX3_nextToken_85 : decode cX3_nextToken 85 = .ok (.iconst 1, 1) := by decide +kernel
theorem dX3_nextToken_86 : decode cX3_nextToken 86 = .ok (.iadd, 1) := by decide +kernel
theorem dX3_nextToken_87 : decode cX3_nextToken 87 = .ok (.putfield 37, 3) := by decide +kernel
theorem dX3_nextToken_90 : decode cX3_nextToken 90 = .ok (.aload_n 0, 1) := by decide +kernel
theorem dX3_nextToken_91 : decode cX3_nextToken 91 = .ok (.getfield 43, 3) := by decide +kernel
theorem dX3_nextToken_94 : decode cX3_nextToken 94 = .ok (.iconst 1, 1) := by decide +kernel
theorem dX3_nextToken_95 : decode cX3_nextToken 95 = .ok (.if_icmp .eq 11, 3) := by decide +kernel
theorem dX3_nextToken_98 : decode cX3_nextToken 98 = .ok (.aload_n 0, 1) := by decide +kernel
theorem dX3_nextToken_99 : decode cX3_nextToken 99 = .ok (.getfield 43, 3) := by decide +kernel
theorem dX3_nextToken_102 : decode cX3_nextToken 102 = .ok (.iconst 2, 1) := by decide +kernel
theorem dX3_nextToken_103 : decode cX3_nextToken 103 = .ok (.if_icmp .ne 45, 3) := by decide +kernel
theorem dX3_nextToken_106 : decode cX3_nextToken 106 = .ok (.aload_n 0, 1) := by decide +kernel
theorem dX3_nextToken_107 : decode cX3_nextToken 107 = .ok (.getfield 37, 3) := by decide +kernel
theorem dX3_nextToken_110 : decode cX3_nextToken 110 = .ok (.aload_n 0, 1) := by decide +kernel
theorem dX3_nextToken_111 : decode cX3_nextToken 111 = .ok (.getfield 9, 3) := by decide +kernel
theorem dX3_nextToken_114 : decode cX3_nextToken 114 = .ok (.getfield 104, 3) := by decide +kernel
theorem dX3_nextToken_117 : decode cX3_nextToken 117 = .ok (.if_icmp .ge 31, 3) := by decide +kernel
theorem dX3_nextToken_120 : decode cX3_nextToken 120 = .ok (.aload_n 0, 1) := by decide +kernel
theorem dX3_nextToken_121 : decode cX3_nextToken 121 = .ok (.aload_n 0, 1) := by decide +kernel
theorem dX3_nextToken_122 : decode cX3_nextToken 122 = .ok (.getfield 37, 3) := by decide +kernel
theorem dX3_nextToken_125 : decode cX3_nextToken 125 = .ok (.invokevirtual 106, 3) := by decide +kernel
theorem dX3_nextToken_128 : decode cX3_nextToken 128 = .ok (.aload_n 0, 1) := by decide +kernel
theorem dX3_nextToken_129 : decode cX3_nextToken 129 = .ok (.getfield 43, 3) := by decide +kernel
theorem dX3_nextToken_132 : decode cX3_nextToken 132 = .ok (.if_icmp .ne 16, 3) := by decide +kernel
theorem dX3_nextToken_135 : decode cX3_nextToken 135 = .ok (.aload_n 0, 1) := by decide +kernel
theorem dX3_nextToken_136 : decode cX3_nextToken 136 = .ok (.dup, 1) := by decide +kernel
theorem dX3_nextToken_137 : decode cX3_nextToken 137 = .ok (.getfield 37, 3) := by decide +kernel
theorem dX3_nextToken_140 : decode cX3_nextToken 140 = .ok (.iconst 1, 1) := by decide +kernel
theorem dX3_nextToken_141 : decode cX3_nextToken 141 = .ok (.iadd, 1) := by decide +kernel
theorem dX3_nextToken_142 : decode cX3_nextToken 142 = .ok (.putfield 37, 3) := by decide +kernel
theorem dX3_nextToken_145 : decode cX3_nextToken 145 = .ok (.goto (-39), 3) := by decide +kernel
theorem dX3_nextToken_148 : decode cX3_nextToken 148 = .ok (.return_, 1) := by decide +kernel
theorem dX3_kindAt_0 : decode cX3_kindAt 0 = .ok (.iload_n 1, 1) := by decide +kernel
theorem dX3_kindAt_1 : decode cX3_kindAt 1 = .ok (.aload_n 0, 1) := by decide +kernel
theorem dX3_kindAt_2 : decode cX3_kindAt 2 = .ok (.getfield 9, 3) := by decide +kernel
theorem dX3_kindAt_5 : decode cX3_kindAt 5 = .ok (.getfield 104, 3) := by decide +kernel
theorem dX3_kindAt_8 : decode cX3_kindAt 8 = .ok (.if_icmp .lt 5, 3) := by decide +kernel
theorem dX3_kindAt_11 : decode cX3_kindAt 11 = .ok (.iconst 0, 1) := by decide +kernel
theorem dX3_kindAt_12 : decode cX3_kindAt 12 = .ok (.ireturn, 1) := by decide +kernel
theorem dX3_kindAt_13 : decode cX3_kindAt 13 = .ok (.aload_n 0, 1) := by decide +kernel
theorem dX3_kindAt_14 : decode cX3_kindAt 14 = .ok (.getfield 9, 3) := by decide +kernel
theorem dX3_kindAt_17 : decode cX3_kindAt 17 = .ok (.getfield 72, 3) := by decide +kernel
theorem dX3_kindAt_20 : decode cX3_kindAt 20 = .ok (.iload_n 1, 1) := by decide +kernel
theorem dX3_kindAt_21 : decode cX3_kindAt 21 = .ok (.invokestatic 19, 3) := by decide +kernel
theorem dX3_kindAt_24 : decode cX3_kindAt 24 = .ok (.istore_n 2, 1) := by decide +kernel
theorem dX3_kindAt_25 : decode cX3_kindAt 25 = .ok (.iload_n 2, 1) := by decide +kernel
theorem dX3_kindAt_26 : decode cX3_kindAt 26 = .ok (.bipush 97, 2) := by decide +kernel
theorem dX3_kindAt_28 : decode cX3_kindAt 28 = .ok (.bipush 122, 2) := by decide +kernel
theorem dX3_kindAt_30 : decode cX3_kindAt 30 = .ok (.invokestatic 90, 3) := by decide +kernel
theorem dX3_kindAt_33 : decode cX3_kindAt 33 = .ok (.ifCond .eq 5, 3) := by decide +kernel
theorem dX3_kindAt_36 : decode cX3_kindAt 36 = .ok (.iconst 1, 1) := by decide +kernel
theorem dX3_kindAt_37 : decode cX3_kindAt 37 = .ok (.ireturn, 1) := by decide +kernel
theorem dX3_kindAt_38 : decode cX3_kindAt 38 = .ok (.iload_n 2, 1) := by decide +kernel
theorem dX3_kindAt_39 : decode cX3_kindAt 39 = .ok (.bipush 48, 2) := by decide +kernel
theorem dX3_kindAt_41 : decode cX3_kindAt 41 = .ok (.bipush 57, 2) := by decide +kernel
theorem dX3_kindAt_43 : decode cX3_kindAt 43 = .ok (.invokestatic 90, 3) := by decide +kernel
theorem dX3_kindAt_46 : decode cX3_kindAt 46 = .ok (.ifCond .eq 7, 3) := by decide +kernel
theorem dX3_kindAt_49 : decode cX3_kindAt 49 = .ok (.iconst 2, 1) := by decide +kernel
theorem dX3_kindAt_50 : decode cX3_kindAt 50 = .ok (.goto 4, 3) := by decide +kernel
theorem dX3_kindAt_53 : decode cX3_kindAt 53 = .ok (.iconst 3, 1) := by decide +kernel
theorem dX3_kindAt_54 : decode cX3_kindAt 54 = .ok (.ireturn, 1) := by decide +kernel
theorem dX4_init_0 : decode cX4_init 0 = .ok (.aload_n 0, 1) := by decide +kernel
theorem dX4_init_1 : decode cX4_init 1 = .ok (.invokespecial 3, 3) := by decide +kernel
theorem dX4_init_4 : decode cX4_init 4 = .ok (.aload_n 0, 1) := by decide +kernel
theorem dX4_init_5 : decode cX4_init 5 = .ok (.new 9, 3) := by decide +kernel
theorem dX4_init_8 : decode cX4_init 8 = .ok (.dup, 1) := by decide +kernel
theorem dX4_init_9 : decode cX4_init 9 = .ok (.invokespecial 11, 3) := by decide +kernel
theorem dX4_init_12 : decode cX4_init 12 = .ok (.putfield 12, 3) := by decide +kernel
theorem dX4_init_15 : decode cX4_init 15 = .ok (.aload_n 0, 1) := by decide +kernel
theorem dX4_init_16 : decode cX4_init 16 = .ok (.new 18, 3) := by decide +kernel
theorem dX4_init_19 : decode cX4_init 19 = .ok (.dup, 1) := by decide +kernel
theorem dX4_init_20 : decode cX4_init 20 = .ok (.invokespecial 20, 3) := by decide +kernel
theorem dX4_init_23 : decode cX4_init 23 = .ok (.putfield 21, 3) := by decide +kernel
theorem dX4_init_26 : decode cX4_init 26 = .ok (.aload_n 0, 1) := by decide +kernel
theorem dX4_init_27 : decode cX4_init 27 = .ok (.new 25, 3) := by decide +kernel
theorem dX4_init_30 : decode cX4_init 30 = .ok (.dup, 1) := by decide +kernel
theorem dX4_init_31 : decode cX4_init 31 = .ok (.invokespecial 27, 3) := by decide +kernel
theorem dX4_init_34 : decode cX4_init 34 = .ok (.putfield 28, 3) := by decide +kernel
theorem dX4_init_37 : decode cX4_init 37 = .ok (.aload_n 0, 1) := by decide +kernel
theorem dX4_init_38 : decode cX4_init 38 = .ok (.iconst 4, 1) := by decide +kernel
theorem dX4_init_39 : decode cX4_init 39 = .ok (.newarray .int, 2) := by decide +kernel
theorem dX4_init_41 : decode cX4_init 41 = .ok (.dup, 1) := by decide +kernel
theorem dX4_init_42 : decode cX4_init 42 = .ok (.iconst 0, 1) := by decide +kernel
theorem dX4_init_43 : decode cX4_init 43 = .ok (.bipush 6, 2) := by decide +kernel
theorem dX4_init_45 : decode cX4_init 45 = .ok (.iastore, 1) := by decide +kernel
theorem dX4_init_46 : decode cX4_init 46 = .ok (.dup, 1) := by decide +kernel
theorem dX4_init_47 : decode cX4_init 47 = .ok (.iconst 1, 1) := by decide +kernel
theorem dX4_init_48 : decode cX4_init 48 = .ok (.bipush 6, 2) := by decide +kernel
theorem dX4_init_50 : decode cX4_init 50 = .ok (.iastore, 1) := by decide +kernel
theorem dX4_init_51 : decode cX4_init 51 = .ok (.dup, 1) := by decide +kernel
theorem dX4_init_52 : decode cX4_init 52 = .ok (.iconst 2, 1) := by decide +kernel
theorem dX4_init_53 : decode cX4_init 53 = .ok (.iconst 4, 1) := by decide +kernel
theorem dX4_init_54 : decode cX4_init 54 = .ok (.iastore, 1) := by decide +kernel
theorem dX4_init_55 : decode cX4_init 55 = .ok (.dup, 1) := by decide +kernel
theorem dX4_init_56 : decode cX4_init 56 = .ok (.iconst 3, 1) := by decide +kernel
theorem dX4_init_57 : decode cX4_init 57 = .ok (.iconst 5, 1) := by decide +kernel
theorem dX4_init_58 : decode cX4_init 58 = .ok (.iastore, 1) := by decide +kernel
theorem dX4_init_59 : decode cX4_init 59 = .ok (.putfield 32, 3) := by decide +kernel
theorem dX4_init_62 : decode cX4_init 62 = .ok (.return_, 1) := by decide +kernel
theorem dX4_become_0 : decode cX4_become 0 = .ok (.aload_n 0, 1) := by decide +kernel
theorem dX4_become_1 : decode cX4_become 1 = .ok (.getfield 12, 3) := by decide +kernel
theorem dX4_become_4 : decode cX4_become 4 = .ok (.aload_n 1, 1) := by decide +kernel
theorem dX4_become_5 : decode cX4_become 5 = .ok (.getfield 12, 3) := by decide +kernel
theorem dX4_become_8 : decode cX4_become 8 = .ok (.invokevirtual 36, 3) := by decide +kernel
theorem dX4_become_11 : decode cX4_become 11 = .ok (.aload_n 0, 1) := by decide +kernel
theorem dX4_become_12 : decode cX4_become 12 = .ok (.getfield 21, 3) := by decide +kernel
theorem dX4_become_15 : decode cX4_become 15 = .ok (.aload_n 1, 1) := by decide +kernel
theorem dX4_become_16 : decode cX4_become 16 = .ok (.getfield 21, 3) := by decide +kernel
theorem dX4_become_19 : decode cX4_become 19 = .ok (.invokevirtual 40, 3) := by decide +kernel
theorem dX4_become_22 : decode cX4_become 22 = .ok (.aload_n 0, 1) := by decide +kernel
theorem dX4_become_23 : decode cX4_become 23 = .ok (.getfield 28, 3) := by decide +kernel
theorem dX4_become_26 : decode cX4_become 26 = .ok (.aload_n 1, 1) := by decide +kernel
theorem dX4_become_27 : decode cX4_become 27 = .ok (.getfield 28, 3) := by decide +kernel
theorem dX4_become_30 : decode cX4_become 30 = .ok (.invokevirtual 43, 3) := by decide +kernel
theorem dX4_become_33 : decode cX4_become 33 = .ok (.aload_n 1, 1) := by decide +kernel
theorem dX4_become_34 : decode cX4_become 34 = .ok (.getfield 32, 3) := by decide +kernel
theorem dX4_become_37 : decode cX4_become 37 = .ok (.aload_n 0, 1) := by decide +kernel
theorem dX4_become_38 : decode cX4_become 38 = .ok (.getfield 32, 3) := by decide +kernel
theorem dX4_become_41 : decode cX4_become 41 = .ok (.invokestatic 46, 3) := by decide +kernel
theorem dX4_become_44 : decode cX4_become 44 = .ok (.aload_n 0, 1) := by decide +kernel
theorem dX4_become_45 : decode cX4_become 45 = .ok (.aload_n 1, 1) := by decide +kernel
theorem dX4_become_46 : decode cX4_become 46 = .ok (.getfield 50, 3) := by decide +kernel
theorem dX4_become_49 : decode cX4_become 49 = .ok (.putfield 50, 3) := by decide +kernel
theorem dX4_become_52 : decode cX4_become 52 = .ok (.aload_n 0, 1) := by decide +kernel
theorem dX4_become_53 : decode cX4_become 53 = .ok (.aload_n 1, 1) := by decide +kernel
theorem dX4_become_54 : decode cX4_become 54 = .ok (.getfield 54, 3) := by decide +kernel
theorem dX4_become_57 : decode cX4_become 57 = .ok (.putfield 54, 3) := by decide +kernel
theorem dX4_become_60 : decode cX4_become 60 = .ok (.aload_n 0, 1) := by decide +kernel
theorem dX4_become_61 : decode cX4_become 61 = .ok (.aload_n 1, 1) := by decide +kernel
theorem dX4_become_62 : decode cX4_become 62 = .ok (.getfield 57, 3) := by decide +kernel
theorem dX4_become_65 : decode cX4_become 65 = .ok (.putfield 57, 3) := by decide +kernel
theorem dX4_become_68 : decode cX4_become 68 = .ok (.aload_n 0, 1) := by decide +kernel
theorem dX4_become_69 : decode cX4_become 69 = .ok (.aload_n 1, 1) := by decide +kernel
theorem dX4_become_70 : decode cX4_become 70 = .ok (.getfield 60, 3) := by decide +kernel
theorem dX4_become_73 : decode cX4_become 73 = .ok (.putfield 60, 3) := by decide +kernel
theorem dX4_become_76 : decode cX4_become 76 = .ok (.aload_n 0, 1) := by decide +kernel
theorem dX4_become_77 : decode cX4_become 77 = .ok (.aload_n 1, 1) := by decide +kernel
theorem dX4_become_78 : decode cX4_become 78 = .ok (.getfield 63, 3) := by decide +kernel
theorem dX4_become_81 : decode cX4_become 81 = .ok (.putfield 63, 3) := by decide +kernel
theorem dX4_become_84 : decode cX4_become 84 = .ok (.return_, 1) := by decide +kernel
theorem dX4_isAway_0 : decode cX4_isAway 0 = .ok (.aload_n 0, 1) := by decide +kernel
theorem dX4_isAway_1 : decode cX4_isAway 1 = .ok (.getfield 28, 3) := by decide +kernel
theorem dX4_isAway_4 : decode cX4_isAway 4 = .ok (.iload_n 1, 1) := by decide +kernel
theorem dX4_isAway_5 : decode cX4_isAway 5 = .ok (.aload_n 0, 1) := by decide +kernel
theorem dX4_isAway_6 : decode cX4_isAway 6 = .ok (.getfield 50, 3) := by decide +kernel
theorem dX4_isAway_9 : decode cX4_isAway 9 = .ok (.iconst 1, 1) := by decide +kernel
theorem dX4_isAway_10 : decode cX4_isAway 10 = .ok (.invokevirtual 66, 3) := by decide +kernel
theorem dX4_isAway_13 : decode cX4_isAway 13 = .ok (.ifCond .lt 7, 3) := by decide +kernel
theorem dX4_isAway_16 : decode cX4_isAway 16 = .ok (.iconst 1, 1) := by decide +kernel
theorem dX4_isAway_17 : decode cX4_isAway 17 = .ok (.goto 4, 3) := by decide +kernel
theorem dX4_isAway_20 : decode cX4_isAway 20 = .ok (.iconst 0, 1) := by decide +kernel
theorem dX4_isAway_21 : decode cX4_isAway 21 = .ok (.ireturn, 1) := by decide +kernel
theorem dX4_awayToday_0 : decode cX4_awayToday 0 = .ok (.iconst 0, 1) := by decide +kernel
theorem dX4_awayToday_1 : decode cX4_awayToday 1 = .ok (.istore_n 1, 1) := by decide +kernel
theorem dX4_awayToday_2 : decode cX4_awayToday 2 = .ok (.iconst 0, 1) := by decide +kernel
theorem dX4_awayToday_3 : decode cX4_awayToday 3 = .ok (.istore_n 2, 1) := by decide +kernel
theorem dX4_awayToday_4 : decode cX4_awayToday 4 = .ok (.iload_n 2, 1) := by decide +kernel
theorem dX4_awayToday_5 : decode cX4_awayToday 5 = .ok (.aload_n 0, 1) := by decide +kernel
theorem dX4_awayToday_6 : decode cX4_awayToday 6 = .ok (.getfield 12, 3) := by decide +kernel
theorem dX4_awayToday_9 : decode cX4_awayToday 9 = .ok (.getfield 70, 3) := by decide +kernel
theorem dX4_awayToday_12 : decode cX4_awayToday 12 = .ok (.if_icmp .ge 23, 3) := by decide +kernel
theorem dX4_awayToday_15 : decode cX4_awayToday 15 = .ok (.aload_n 0, 1) := by decide +kernel
theorem dX4_awayToday_16 : decode cX4_awayToday 16 = .ok (.iload_n 2, 1) := by decide +kernel
theorem dX4_awayToday_17 : decode cX4_awayToday 17 = .ok (.invokevirtual 73, 3) := by decide +kernel
theorem dX4_awayToday_20 : decode cX4_awayToday 20 = .ok (.ifCond .eq 9, 3) := by decide +kernel
theorem dX4_awayToday_23 : decode cX4_awayToday 23 = .ok (.iload_n 1, 1) := by decide +kernel
theorem dX4_awayToday_24 : decode cX4_awayToday 24 = .ok (.iconst 1, 1) := by decide +kernel
theorem dX4_awayToday_25 : decode cX4_awayToday 25 = .ok (.iload_n 2, 1) := by decide +kernel
theorem dX4_awayToday_26 : decode cX4_awayToday 26 = .ok (.ishl, 1) := by decide +kernel
theorem dX4_awayToday_27 : decode cX4_awayToday 27 = .ok (.ior, 1) := by decide +kernel
theorem dX4_awayToday_28 : decode cX4_awayToday 28 = .ok (.istore_n 1, 1) := by decide +kernel
theorem dX4_awayToday_29 : decode cX4_awayToday 29 = .ok (.iinc 2 1, 3) := by decide +kernel
theorem dX4_awayToday_32 : decode cX4_awayToday 32 = .ok (.goto (-28), 3) := by decide +kernel
theorem dX4_awayToday_35 : decode cX4_awayToday 35 = .ok (.iload_n 1, 1) := by decide +kernel
theorem dX4_awayToday_36 : decode cX4_awayToday 36 = .ok (.ireturn, 1) := by decide +kernel
theorem dX4_isTooDirty_0 : decode cX4_isTooDirty 0 = .ok (.aload_n 0, 1) := by decide +kernel
theorem dX4_isTooDirty_1 : decode cX4_isTooDirty 1 = .ok (.getfield 12, 3) := by decide +kernel
theorem dX4_isTooDirty_4 : decode cX4_isTooDirty 4 = .ok (.getfield 77, 3) := by decide +kernel
theorem dX4_isTooDirty_7 : decode cX4_isTooDirty 7 = .ok (.iload_n 1, 1) := by decide +kernel
theorem dX4_isTooDirty_8 : decode cX4_isTooDirty 8 = .ok (.invokestatic 80, 3) := by decide +kernel
theorem dX4_isTooDirty_11 : decode cX4_isTooDirty 11 = .ok (.aload_n 0, 1) := by decide +kernel
theorem dX4_isTooDirty_12 : decode cX4_isTooDirty 12 = .ok (.getfield 32, 3) := by decide +kernel
theorem dX4_isTooDirty_15 : decode cX4_isTooDirty 15 = .ok (.iconst 3, 1) := by decide +kernel
theorem dX4_isTooDirty_16 : decode cX4_isTooDirty 16 = .ok (.invokestatic 80, 3) := by decide +kernel
theorem dX4_isTooDirty_19 : decode cX4_isTooDirty 19 = .ok (.if_icmp .lt 7, 3) := by decide +kernel
theorem dX4_isTooDirty_22 : decode cX4_isTooDirty 22 = .ok (.iconst 1, 1) := by decide +kernel
theorem dX4_isTooDirty_23 : decode cX4_isTooDirty 23 = .ok (.goto 4, 3) := by decide +kernel
theorem dX4_isTooDirty_26 : decode cX4_isTooDirty 26 = .ok (.iconst 0, 1) := by decide +kernel
theorem dX4_isTooDirty_27 : decode cX4_isTooDirty 27 = .ok (.ireturn, 1) := by decide +kernel
theorem dX4_lackOf_0 : decode cX4_lackOf 0 = .ok (.aload_n 0, 1) := by decide +kernel
theorem dX4_lackOf_1 : decode cX4_lackOf 1 = .ok (.getfield 12, 3) := by decide +kernel
theorem dX4_lackOf_4 : decode cX4_lackOf 4 = .ok (.iload_n 1, 1) := by decide +kernel
theorem dX4_lackOf_5 : decode cX4_lackOf 5 = .ok (.iload_n 3, 1) := by decide +kernel
theorem dX4_lackOf_6 : decode cX4_lackOf 6 = .ok (.invokevirtual 84, 3) := by decide +kernel
theorem dX4_lackOf_9 : decode cX4_lackOf 9 = .ok (.istore 4, 2) := by decide +kernel
theorem dX4_lackOf_11 : decode cX4_lackOf 11 = .ok (.aload_n 0, 1) := by decide +kernel
theorem dX4_lackOf_12 : decode cX4_lackOf 12 = .ok (.getfield 21, 3) := by decide +kernel
theorem dX4_lackOf_15 : decode cX4_lackOf 15 = .ok (.iload_n 2, 1) := by decide +kernel
theorem dX4_lackOf_16 : decode cX4_lackOf 16 = .ok (.iload_n 3, 1) := by decide +kernel
theorem dX4_lackOf_17 : decode cX4_lackOf 17 = .ok (.invokevirtual 88, 3) := by decide +kernel
theorem dX4_lackOf_20 : decode cX4_lackOf 20 = .ok (.istore 5, 2) := by decide +kernel
theorem dX4_lackOf_22 : decode cX4_lackOf 22 = .ok (.iload 5, 2) := by decide +kernel
theorem dX4_lackOf_24 : decode cX4_lackOf 24 = .ok (.aload_n 0, 1) := by decide +kernel
theorem dX4_lackOf_25 : decode cX4_lackOf 25 = .ok (.getfield 32, 3) := by decide +kernel
theorem dX4_lackOf_28 : decode cX4_lackOf 28 = .ok (.iload_n 3, 1) := by decide +kernel
theorem dX4_lackOf_29 : decode cX4_lackOf 29 = .ok (.invokestatic 80, 3) := by decide +kernel
theorem dX4_lackOf_32 : decode cX4_lackOf 32 = .ok (.iadd, 1) := by decide +kernel
theorem dX4_lackOf_33 : decode cX4_lackOf 33 = .ok (.istore 6, 2) := by decide +kernel
theorem dX4_lackOf_35 : decode cX4_lackOf 35 = .ok (.iload 4, 2) := by decide +kernel
theorem dX4_lackOf_37 : decode cX4_lackOf 37 = .ok (.iload 5, 2) := by decide +kernel
theorem dX4_lackOf_39 : decode cX4_lackOf 39 = .ok (.if_icmp .ge 9, 3) := by decide +kernel
theorem dX4_lackOf_42 : decode cX4_lackOf 42 = .ok (.iload 5, 2) := by decide +kernel
theorem dX4_lackOf_44 : decode cX4_lackOf 44 = .ok (.iload 4, 2) := by decide +kernel
theorem dX4_lackOf_46 : decode cX4_lackOf 46 = .ok (.isub, 1) := by decide +kernel
theorem dX4_lackOf_47 : decode cX4_lackOf 47 = .ok (.ireturn, 1) := by decide +kernel
theorem dX4_lackOf_48 : decode cX4_lackOf 48 = .ok (.iload 4, 2) := by decide +kernel
theorem dX4_lackOf_50 : decode cX4_lackOf 50 = .ok (.iload 6, 2) := by decide +kernel
theorem dX4_lackOf_52 : decode cX4_lackOf 52 = .ok (.if_icmp .le 11, 3) := by decide +kernel
theorem dX4_lackOf_55 : decode cX4_lackOf 55 = .ok (.iload 6, 2) := by decide +kernel
theorem dX4_lackOf_57 : decode cX4_lackOf 57 = .ok (.iload 4, 2) := by decide +kernel
theorem dX4_lackOf_59 : decode cX4_lackOf 59 = .ok (.isub, 1) := by decide +kernel
theorem dX4_lackOf_60 : decode cX4_lackOf 60 = .ok (.goto 4, 3) := by decide +kernel
theorem dX4_lackOf_63 : decode cX4_lackOf 63 = .ok (.iconst 0, 1) := by decide +kernel
theorem dX4_lackOf_64 : decode cX4_lackOf 64 = .ok (.ireturn, 1) := by decide +kernel
theorem dX4_misfitOf_0 : decode cX4_misfitOf 0 = .ok (.iconst 0, 1) := by decide +kernel
theorem dX4_misfitOf_1 : decode cX4_misfitOf 1 = .ok (.istore_n 3, 1) := by decide +kernel
theorem dX4_misfitOf_2 : decode cX4_misfitOf 2 = .ok (.iconst 0, 1) := by decide +kernel
theorem dX4_misfitOf_3 : decode cX4_misfitOf 3 = .ok (.istore 4, 2) := by decide +kernel
theorem dX4_misfitOf_5 : decode cX4_misfitOf 5 = .ok (.iload 4, 2) := by decide +kernel
theorem dX4_misfitOf_7 : decode cX4_misfitOf 7 = .ok (.iconst 3, 1) := by decide +kernel
theorem dX4_misfitOf_8 : decode cX4_misfitOf 8 = .ok (.if_icmp .ge 23, 3) := by decide +kernel
theorem dX4_misfitOf_11 : decode cX4_misfitOf 11 = .ok (.iload_n 3, 1) := by decide +kernel
theorem dX4_misfitOf_12 : decode cX4_misfitOf 12 = .ok (.aload_n 0, 1) := by decide +kernel
theorem dX4_misfitOf_13 : decode cX4_misfitOf 13 = .ok (.iload_n 1, 1) := by decide +kernel
theorem dX4_misfitOf_14 : decode cX4_misfitOf 14 = .ok (.iload_n 2, 1) := by decide +kernel
theorem dX4_misfitOf_15 : decode cX4_misfitOf 15 = .ok (.iload 4, 2) := by decide +kernel
theorem dX4_misfitOf_17 : decode cX4_misfitOf 17 = .ok (.invokevirtual 91, 3) := by decide +kernel
theorem dX4_misfitOf_20 : decode cX4_misfitOf 20 = .ok (.invokestatic 94, 3) := by decide +kernel
theorem dX4_misfitOf_23 : decode cX4_misfitOf 23 = .ok (.iadd, 1) := by decide +kernel
theorem dX4_misfitOf_24 : decode cX4_misfitOf 24 = .ok (.istore_n 3, 1) := by decide +kernel
theorem dX4_misfitOf_25 : decode cX4_misfitOf 25 = .ok (.iinc 4 1, 3) := by decide +kernel
theorem dX4_misfitOf_28 : decode cX4_misfitOf 28 = .ok (.goto (-23), 3) := by decide +kernel
theorem dX4_misfitOf_31 : decode cX4_misfitOf 31 = .ok (.iload_n 3, 1) := by decide +kernel
theorem dX4_misfitOf_32 : decode cX4_misfitOf 32 = .ok (.ireturn, 1) := by decide +kernel
theorem dX4_leastChange_0 : decode cX4_leastChange 0 = .ok (.iconst 0, 1) := by decide +kernel
theorem dX4_leastChange_1 : decode cX4_leastChange 1 = .ok (.istore_n 3, 1) := by decide +kernel
theorem dX4_leastChange_2 : decode cX4_leastChange 2 = .ok (.aload_n 0, 1) := by decide +kernel
theorem dX4_leastChange_3 : decode cX4_leastChange 3 = .ok (.getfield 12, 3) := by decide +kernel
theorem dX4_leastChange_6 : decode cX4_leastChange 6 = .ok (.iload_n 1, 1) := by decide +kernel
theorem dX4_leastChange_7 : decode cX4_leastChange 7 = .ok (.invokevirtual 100, 3) := by decide +kernel
theorem dX4_leastChange_10 : decode cX4_leastChange 10 = .ok (.istore 4, 2) := by decide +kernel
theorem dX4_leastChange_12 : decode cX4_leastChange 12 = .ok (.iconst 0, 1) := by decide +kernel
theorem dX4_leastChange_13 : decode cX4_leastChange 13 = .ok (.istore 5, 2) := by decide +kernel
theorem dX4_leastChange_15 : decode cX4_leastChange 15 = .ok (.iload 5, 2) := by decide +kernel
theorem dX4_leastChange_17 : decode cX4_leastChange 17 = .ok (.iconst 3, 1) := by decide +kernel
theorem dX4_leastChange_18 : decode cX4_leastChange 18 = .ok (.if_icmp .ge 72, 3) := by decide +kernel
theorem dX4_leastChange_21 : decode cX4_leastChange 21 = .ok (.aload_n 0, 1) := by decide +kernel
theorem dX4_leastChange_22 : decode cX4_leastChange 22 = .ok (.iload_n 1, 1) := by decide +kernel
theorem dX4_leastChange_23 : decode cX4_leastChange 23 = .ok (.iload_n 2, 1) := by decide +kernel
theorem dX4_leastChange_24 : decode cX4_leastChange 24 = .ok (.iload 5, 2) := by decide +kernel
theorem dX4_leastChange_26 : decode cX4_leastChange 26 = .ok (.invokevirtual 91, 3) := by decide +kernel
theorem dX4_leastChange_29 : decode cX4_leastChange 29 = .ok (.istore 6, 2) := by decide +kernel
theorem dX4_leastChange_31 : decode cX4_leastChange 31 = .ok (.iload 6, 2) := by decide +kernel
theorem dX4_leastChange_33 : decode cX4_leastChange 33 = .ok (.ifCond .ne 6, 3) := by decide +kernel
theorem dX4_leastChange_36 : decode cX4_leastChange 36 = .ok (.goto 48, 3) := by decide +kernel
theorem dX4_leastChange_39 : decode cX4_leastChange 39 = .ok (.iload 4, 2) := by decide +kernel
theorem dX4_leastChange_41 : decode cX4_leastChange 41 = .ok (.ifCond .le 28, 3) := by decide +kernel
theorem dX4_leastChange_44 : decode cX4_leastChange 44 = .ok (.iload 6, 2) := by decide +kernel
theorem dX4_leastChange_46 : decode cX4_leastChange 46 = .ok (.invokestatic 94, 3) := by decide +kernel
theorem dX4_leastChange_49 : decode cX4_leastChange 49 = .ok (.bipush 10, 2) := by decide +kernel
theorem dX4_leastChange_51 : decode cX4_leastChange 51 = .ok (.if_icmp .gt 18, 3) := by decide +kernel
theorem dX4_leastChange_54 : decode cX4_leastChange 54 = .ok (.aload_n 0, 1) := by decide +kernel
theorem dX4_leastChange_55 : decode cX4_leastChange 55 = .ok (.getfield 12, 3) := by decide +kernel
theorem dX4_leastChange_58 : decode cX4_leastChange 58 = .ok (.iload_n 1, 1) := by decide +kernel
theorem dX4_leastChange_59 : decode cX4_leastChange 59 = .ok (.iload 5, 2) := by decide +kernel
theorem dX4_leastChange_61 : decode cX4_leastChange 61 = .ok (.iload 6, 2) := by decide +kernel
theorem dX4_leastChange_63 : decode cX4_leastChange 63 = .ok (.invokevirtual 103, 3) := by decide +kernel
theorem dX4_leastChange_66 : decode cX4_leastChange 66 = .ok (.ifCond .ne 7, 3) := by decide +kernel
theorem dX4_leastChange_69 : decode cX4_leastChange 69 = .ok (.sipush (-2009), 3) := by decide +kernel
theorem dX4_leastChange_72 : decode cX4_leastChange 72 = .ok (.ireturn, 1) := by decide +kernel
theorem dX4_leastChange_73 : decode cX4_leastChange 73 = .ok (.iinc 4 (-1), 3) := by decide +kernel
theorem dX4_leastChange_76 : decode cX4_leastChange 76 = .ok (.iload_n 3, 1) := by decide +kernel
theorem dX4_leastChange_77 : decode cX4_leastChange 77 = .ok (.iload 6, 2) := by decide +kernel
theorem dX4_leastChange_79 : decode cX4_leastChange 79 = .ok (.invokestatic 94, 3) := by decide +kernel
theorem dX4_leastChange_82 : decode cX4_leastChange 82 = .ok (.iadd, 1) := by decide +kernel
theorem dX4_leastChange_83 : decode cX4_leastChange 83 = .ok (.istore_n 3, 1) := by decide +kernel
theorem dX4_leastChange_84 : decode cX4_leastChange 84 = .ok (.iinc 5 1, 3) := by decide +kernel
theorem dX4_leastChange_87 : decode cX4_leastChange 87 = .ok (.goto (-72), 3) := by decide +kernel
theorem dX4_leastChange_90 : decode cX4_leastChange 90 = .ok (.iload_n 3, 1) := by decide +kernel
theorem dX4_leastChange_91 : decode cX4_leastChange 91 = .ok (.ireturn, 1) := by decide +kernel
theorem dX4_bestCostume_0 : decode cX4_bestCostume 0 = .ok (.sipush (-2009), 3) := by decide +kernel
theorem dX4_bestCostume_3 : decode cX4_bestCostume 3 = .ok (.istore_n 3, 1) := by decide +kernel
theorem dX4_bestCostume_4 : decode cX4_bestCostume 4 = .ok (.iconst 0, 1) := by decide +kernel
theorem dX4_bestCostume_5 : decode cX4_bestCostume 5 = .ok (.istore 4, 2) := by decide +kernel
theorem dX4_bestCostume_7 : decode cX4_bestCostume 7 = .ok (.iconst 0, 1) := by decide +kernel
theorem dX4_bestCostume_8 : decode cX4_bestCostume 8 = .ok (.istore 5, 2) := by decide +kernel
theorem dX4_bestCostume_10 : decode cX4_bestCostume 10 = .ok (.iload 5, 2) := by decide +kernel
theorem dX4_bestCostume_12 : decode cX4_bestCostume 12 = .ok (.aload_n 0, 1) := by decide +kernel
theorem dX4_bestCostume_13 : decode cX4_bestCostume 13 = .ok (.getfield 12, 3) := by decide +kernel
theorem dX4_bestCostume_16 : decode cX4_bestCostume 16 = .ok (.getfield 70, 3) := by decide +kernel
theorem dX4_bestCostume_19 : decode cX4_bestCostume 19 = .ok (.if_icmp .ge 61, 3) := by decide +kernel
theorem dX4_bestCostume_22 : decode cX4_bestCostume 22 = .ok (.aload_n 0, 1) := by decide +kernel
theorem dX4_bestCostume_23 : decode cX4_bestCostume 23 = .ok (.iload_n 1, 1) := by decide +kernel
theorem dX4_bestCostume_24 : decode cX4_bestCostume 24 = .ok (.iload_n 2, 1) := by decide +kernel
theorem dX4_bestCostume_25 : decode cX4_bestCostume 25 = .ok (.iload 5, 2) := by decide +kernel
theorem dX4_bestCostume_27 : decode cX4_bestCostume 27 = .ok (.invokevirtual 107, 3) := by decide +kernel
theorem dX4_bestCostume_30 : decode cX4_bestCostume 30 = .ok (.ifCond .ne 6, 3) := by decide +kernel
theorem dX4_bestCostume_33 : decode cX4_bestCostume 33 = .ok (.goto 41, 3) := by decide +kernel
theorem dX4_bestCostume_36 : decode cX4_bestCostume 36 = .ok (.aload_n 0, 1) := by decide +kernel
theorem dX4_bestCostume_37 : decode cX4_bestCostume 37 = .ok (.iload 5, 2) := by decide +kernel
theorem dX4_bestCostume_39 : decode cX4_bestCostume 39 = .ok (.iload_n 2, 1) := by decide +kernel
theorem dX4_bestCostume_40 : decode cX4_bestCostume 40 = .ok (.invokevirtual 110, 3) := by decide +kernel
theorem dX4_bestCostume_43 : decode cX4_bestCostume 43 = .ok (.istore 6, 2) := by decide +kernel
theorem dX4_bestCostume_45 : decode cX4_bestCostume 45 = .ok (.iload 6, 2) := by decide +kernel
theorem dX4_bestCostume_47 : decode cX4_bestCostume 47 = .ok (.sipush (-2009), 3) := by decide +kernel
theorem dX4_bestCostume_50 : decode cX4_bestCostume 50 = .ok (.if_icmp .eq 24, 3) := by decide +kernel
theorem dX4_bestCostume_53 : decode cX4_bestCostume 53 = .ok (.iload_n 3, 1) := by decide +kernel
theorem dX4_bestCostume_54 : decode cX4_bestCostume 54 = .ok (.sipush (-2009), 3) := by decide +kernel
theorem dX4_bestCostume_57 : decode cX4_bestCostume 57 = .ok (.if_icmp .eq 10, 3) := by decide +kernel
theorem dX4_bestCostume_60 : decode cX4_bestCostume 60 = .ok (.iload 6, 2) := by decide +kernel
theorem dX4_bestCostume_62 : decode cX4_bestCostume 62 = .ok (.iload 4, 2) := by decide +kernel
theorem dX4_bestCostume_64 : decode cX4_bestCostume 64 = .ok (.if_icmp .ge 10, 3) := by decide +kernel
theorem dX4_bestCostume_67 : decode cX4_bestCostume 67 = .ok (.iload 5, 2) := by decide +kernel
theorem dX4_bestCostume_69 : decode cX4_bestCostume 69 = .ok (.istore_n 3, 1) := by decide +kernel
theorem dX4_bestCostume_70 : decode cX4_bestCostume 70 = .ok (.iload 6, 2) := by decide +kernel
theorem dX4_bestCostume_72 : decode cX4_bestCostume 72 = .ok (.istore 4, 2) := by decide +kernel
theorem dX4_bestCostume_74 : decode cX4_bestCostume 74 = .ok (.iinc 5 1, 3) := by decide +kernel
theorem dX4_bestCostume_77 : decode cX4_bestCostume 77 = .ok (.goto (-67), 3) := by decide +kernel
theorem dX4_bestCostume_80 : decode cX4_bestCostume 80 = .ok (.iload_n 3, 1) := by decide +kernel
theorem dX4_bestCostume_81 : decode cX4_bestCostume 81 = .ok (.ireturn, 1) := by decide +kernel
theorem dX4_isFreeFor_0 : decode cX4_isFreeFor 0 = .ok (.aload_n 0, 1) := by decide +kernel
theorem dX4_isFreeFor_1 : decode cX4_isFreeFor 1 = .ok (.iload_n 3, 1) := by decide +kernel
theorem dX4_isFreeFor_2 : decode cX4_isFreeFor 2 = .ok (.invokevirtual 73, 3) := by decide +kernel
theorem dX4_isFreeFor_5 : decode cX4_isFreeFor 5 = .ok (.ifCond .ne 11, 3) := by decide +kernel
theorem dX4_isFreeFor_8 : decode cX4_isFreeFor 8 = .ok (.aload_n 0, 1) := by decide +kernel
theorem dX4_isFreeFor_9 : decode cX4_isFreeFor 9 = .ok (.iload_n 3, 1) := by decide +kernel
theorem dX4_isFreeFor_10 : decode cX4_isFreeFor 10 = .ok (.invokevirtual 113, 3) := by decide +kernel
theorem dX4_isFreeFor_13 : decode cX4_isFreeFor 13 = .ok (.ifCond .eq 5, 3) := by decide +kernel
theorem dX4_isFreeFor_16 : decode cX4_isFreeFor 16 = .ok (.iconst 0, 1) := by decide +kernel
theorem dX4_isFreeFor_17 : decode cX4_isFreeFor 17 = .ok (.ireturn, 1) := by decide +kernel
theorem dX4_isFreeFor_18 : decode cX4_isFreeFor 18 = .ok (.iload_n 1, 1) := by decide +kernel
theorem dX4_isFreeFor_19 : decode cX4_isFreeFor 19 = .ok (.iconst 1, 1) := by decide +kernel
theorem dX4_isFreeFor_20 : decode cX4_isFreeFor 20 = .ok (.iadd, 1) := by decide +kernel
theorem dX4_isFreeFor_21 : decode cX4_isFreeFor 21 = .ok (.bipush 11, 2) := by decide +kernel
theorem dX4_isFreeFor_23 : decode cX4_isFreeFor 23 = .ok (.invokestatic 116, 3) := by decide +kernel
theorem dX4_isFreeFor_26 : decode cX4_isFreeFor 26 = .ok (.istore 4, 2) := by decide +kernel
theorem dX4_isFreeFor_28 : decode cX4_isFreeFor 28 = .ok (.iload_n 1, 1) := by decide +kernel
theorem dX4_isFreeFor_29 : decode cX4_isFreeFor 29 = .ok (.iconst 1, 1) := by decide +kernel
theorem dX4_isFreeFor_30 : decode cX4_isFreeFor 30 = .ok (.isub, 1) := by decide +kernel
theorem dX4_isFreeFor_31 : decode cX4_isFreeFor 31 = .ok (.iconst 0, 1) := by decide +kernel
theorem dX4_isFreeFor_32 : decode cX4_isFreeFor 32 = .ok (.invokestatic 119, 3) := by decide +kernel
theorem dX4_isFreeFor_35 : decode cX4_isFreeFor 35 = .ok (.istore 5, 2) := by decide +kernel
theorem dX4_isFreeFor_37 : decode cX4_isFreeFor 37 = .ok (.iload 5, 2) := by decide +kernel
theorem dX4_isFreeFor_39 : decode cX4_isFreeFor 39 = .ok (.iload 4, 2) := by decide +kernel
theorem dX4_isFreeFor_41 : decode cX4_isFreeFor 41 = .ok (.if_icmp .gt 25, 3) := by decide +kernel
theorem dX4_isFreeFor_44 : decode cX4_isFreeFor 44 = .ok (.aload_n 0, 1) := by decide +kernel
theorem dX4_isFreeFor_45 : decode cX4_isFreeFor 45 = .ok (.getfield 21, 3) := by decide +kernel
theorem dX4_isFreeFor_48 : decode cX4_isFreeFor 48 = .ok (.iload 5, 2) := by decide +kernel
theorem dX4_isFreeFor_50 : decode cX4_isFreeFor 50 = .ok (.iload_n 2, 1) := by decide +kernel
theorem dX4_isFreeFor_51 : decode cX4_isFreeFor 51 = .ok (.iload_n 3, 1) := by decide +kernel
theorem dX4_isFreeFor_52 : decode cX4_isFreeFor 52 = .ok (.invokevirtual 122, 3) := by decide +kernel
theorem dX4_isFreeFor_55 : decode cX4_isFreeFor 55 = .ok (.ifCond .eq 5, 3) := by decide +kernel
theorem dX4_isFreeFor_58 : decode cX4_isFreeFor 58 = .ok (.iconst 0, 1) := by decide +kernel
theorem dX4_isFreeFor_59 : decode cX4_isFreeFor 59 = .ok (.ireturn, 1) := by decide +kernel
theorem dX4_isFreeFor_60 : decode cX4_isFreeFor 60 = .ok (.iinc 5 1, 3) := by decide +kernel
theorem dX4_isFreeFor_63 : decode cX4_isFreeFor 63 = .ok (.goto (-26), 3) := by decide +kernel
theorem dX4_isFreeFor_66 : decode cX4_isFreeFor 66 = .ok (.iconst 1, 1) := by decide +kernel
theorem dX4_isFreeFor_67 : decode cX4_isFreeFor 67 = .ok (.ireturn, 1) := by decide +kernel
theorem dX4_problemsOf_0 : decode cX4_problemsOf 0 = .ok (.iload_n 1, 1) := by decide +kernel
theorem dX4_problemsOf_1 : decode cX4_problemsOf 1 = .ok (.lookupswitch 37 #[(0, 27), (1, 32)], 27) := by decide +kernel
theorem dX4_problemsOf_28 : decode cX4_problemsOf 28 = .ok (.aload_n 0, 1) := by decide +kernel
theorem dX4_problemsOf_29 : decode cX4_problemsOf 29 = .ok (.invokevirtual 125, 3) := by decide +kernel
theorem dX4_problemsOf_32 : decode cX4_problemsOf 32 = .ok (.ireturn, 1) := by decide +kernel
theorem dX4_problemsOf_33 : decode cX4_problemsOf 33 = .ok (.aload_n 0, 1) := by decide +kernel
theorem dX4_problemsOf_34 : decode cX4_problemsOf 34 = .ok (.invokevirtual 129, 3) := by decide +kernel
theorem dX4_problemsOf_37 : decode cX4_problemsOf 37 = .ok (.ireturn, 1) := by decide +kernel
theorem dX4_problemsOf_38 : decode cX4_problemsOf 38 = .ok (.aload_n 0, 1) := by decide +kernel
theorem dX4_problemsOf_39 : decode cX4_problemsOf 39 = .ok (.iload_n 1, 1) := by decide +kernel
theorem dX4_problemsOf_40 : decode cX4_problemsOf 40 = .ok (.invokevirtual 132, 3) := by decide +kernel
theorem dX4_problemsOf_43 : decode cX4_problemsOf 43 = .ok (.ireturn, 1) := by decide +kernel
theorem dX4_wornTwice_0 : decode cX4_wornTwice 0 = .ok (.iconst 0, 1) := by decide +kernel
theorem dX4_wornTwice_1 : decode cX4_wornTwice 1 = .ok (.istore_n 1, 1) := by decide +kernel
theorem dX4_wornTwice_2 : decode cX4_wornTwice 2 = .ok (.iconst 0, 1) := by decide +kernel
theorem dX4_wornTwice_3 : decode cX4_wornTwice 3 = .ok (.istore_n 2, 1) := by decide +kernel
theorem dX4_wornTwice_4 : decode cX4_wornTwice 4 = .ok (.iload_n 2, 1) := by decide +kernel
theorem dX4_wornTwice_5 : decode cX4_wornTwice 5 = .ok (.bipush 12, 2) := by decide +kernel
theorem dX4_wornTwice_7 : decode cX4_wornTwice 7 = .ok (.if_icmp .ge 44, 3) := by decide +kernel
theorem dX4_wornTwice_10 : decode cX4_wornTwice 10 = .ok (.iconst 0, 1) := by decide +kernel
theorem dX4_wornTwice_11 : decode cX4_wornTwice 11 = .ok (.istore_n 3, 1) := by decide +kernel
theorem dX4_wornTwice_12 : decode cX4_wornTwice 12 = .ok (.iload_n 3, 1) := by decide +kernel
theorem dX4_wornTwice_13 : decode cX4_wornTwice 13 = .ok (.aload_n 0, 1) := by decide +kernel
theorem dX4_wornTwice_14 : decode cX4_wornTwice 14 = .ok (.getfield 12, 3) := by decide +kernel
theorem dX4_wornTwice_17 : decode cX4_wornTwice 17 = .ok (.getfield 70, 3) := by decide +kernel
theorem dX4_wornTwice_20 : decode cX4_wornTwice 20 = .ok (.if_icmp .ge 25, 3) := by decide +kernel
theorem dX4_wornTwice_23 : decode cX4_wornTwice 23 = .ok (.aload_n 0, 1) := by decide +kernel
theorem dX4_wornTwice_24 : decode cX4_wornTwice 24 = .ok (.getfield 21, 3) := by decide +kernel
theorem dX4_wornTwice_27 : decode cX4_wornTwice 27 = .ok (.iload_n 2, 1) := by decide +kernel
theorem dX4_wornTwice_28 : decode cX4_wornTwice 28 = .ok (.iload_n 3, 1) := by decide +kernel
theorem dX4_wornTwice_29 : decode cX4_wornTwice 29 = .ok (.invokevirtual 135, 3) := by decide +kernel
theorem dX4_wornTwice_32 : decode cX4_wornTwice 32 = .ok (.iconst 1, 1) := by decide +kernel
theorem dX4_wornTwice_33 : decode cX4_wornTwice 33 = .ok (.if_icmp .le 6, 3) := by decide +kernel
theorem dX4_wornTwice_36 : decode cX4_wornTwice 36 = .ok (.iinc 1 1, 3) := by decide +kernel
theorem dX4_wornTwice_39 : decode cX4_wornTwice 39 = .ok (.iinc 3 1, 3) := by decide +kernel
theorem dX4_wornTwice_42 : decode cX4_wornTwice 42 = .ok (.goto (-30), 3) := by decide +kernel
theorem dX4_wornTwice_45 : decode cX4_wornTwice 45 = .ok (.iinc 2 1, 3) := by decide +kernel
theorem dX4_wornTwice_48 : decode cX4_wornTwice 48 = .ok (.goto (-44), 3) := by decide +kernel
theorem dX4_wornTwice_51 : decode cX4_wornTwice 51 = .ok (.iload_n 1, 1) := by decide +kernel
theorem dX4_wornTwice_52 : decode cX4_wornTwice 52 = .ok (.ireturn, 1) := by decide +kernel
theorem dX4_handedOver_0 : decode cX4_handedOver 0 = .ok (.iconst 0, 1) := by decide +kernel
theorem dX4_handedOver_1 : decode cX4_handedOver 1 = .ok (.istore_n 1, 1) := by decide +kernel
theorem dX4_handedOver_2 : decode cX4_handedOver 2 = .ok (.iconst 0, 1) := by decide +kernel
theorem dX4_handedOver_3 : decode cX4_handedOver 3 = .ok (.istore_n 2, 1) := by decide +kernel
theorem dX4_handedOver_4 : decode cX4_handedOver 4 = .ok (.iload_n 2, 1) := by decide +kernel
theorem dX4_handedOver_5 : decode cX4_handedOver 5 = .ok (.iconst 1, 1) := by decide +kernel
theorem dX4_handedOver_6 : decode cX4_handedOver 6 = .ok (.iadd, 1) := by decide +kernel
theorem dX4_handedOver_7 : decode cX4_handedOver 7 = .ok (.bipush 12, 2) := by decide +kernel
theorem dX4_handedOver_9 : decode cX4_handedOver 9 = .ok (.if_icmp .ge 43, 3) := by decide +kernel
theorem dX4_handedOver_12 : decode cX4_handedOver 12 = .ok (.iconst 0, 1) := by decide +kernel
theorem dX4_handedOver_13 : decode cX4_handedOver 13 = .ok (.istore_n 3, 1) := by decide +kernel
theorem dX4_handedOver_14 : decode cX4_handedOver 14 = .ok (.iload_n 3, 1) := by decide +kernel
theorem dX4_handedOver_15 : decode cX4_handedOver 15 = .ok (.aload_n 0, 1) := by decide +kernel
theorem dX4_handedOver_16 : decode cX4_handedOver 16 = .ok (.getfield 12, 3) := by decide +kernel
theorem dX4_handedOver_19 : decode cX4_handedOver 19 = .ok (.getfield 70, 3) := by decide +kernel
theorem dX4_handedOver_22 : decode cX4_handedOver 22 = .ok (.if_icmp .ge 24, 3) := by decide +kernel
theorem dX4_handedOver_25 : decode cX4_handedOver 25 = .ok (.aload_n 0, 1) := by decide +kernel
theorem dX4_handedOver_26 : decode cX4_handedOver 26 = .ok (.getfield 21, 3) := by decide +kernel
theorem dX4_handedOver_29 : decode cX4_handedOver 29 = .ok (.iload_n 2, 1) := by decide +kernel
theorem dX4_handedOver_30 : decode cX4_handedOver 30 = .ok (.iload_n 3, 1) := by decide +kernel
theorem dX4_handedOver_31 : decode cX4_handedOver 31 = .ok (.invokevirtual 138, 3) := by decide +kernel
theorem dX4_handedOver_34 : decode cX4_handedOver 34 = .ok (.ifCond .eq 6, 3) := by decide +kernel
theorem dX4_handedOver_37 : decode cX4_handedOver 37 = .ok (.iinc 1 1, 3) := by decide +kernel
theorem dX4_handedOver_40 : decode cX4_handedOver 40 = .ok (.iinc 3 1, 3) := by decide +kernel
theorem dX4_handedOver_43 : decode cX4_handedOver 43 = .ok (.goto (-29), 3) := by decide +kernel
theorem dX4_handedOver_46 : decode cX4_handedOver 46 = .ok (.iinc 2 1, 3) := by decide +kernel
theorem dX4_handedOver_49 : decode cX4_handedOver 49 = .ok (.goto (-45), 3) := by decide +kernel
theorem dX4_handedOver_52 : decode cX4_handedOver 52 = .ok (.iload_n 1, 1) := by decide +kernel
theorem dX4_handedOver_53 : decode cX4_handedOver 53 = .ok (.ireturn, 1) := by decide +kernel
theorem dX4_wornAmiss_0 : decode cX4_wornAmiss 0 = .ok (.iconst 0, 1) := by decide +kernel
theorem dX4_wornAmiss_1 : decode cX4_wornAmiss 1 = .ok (.istore_n 2, 1) := by decide +kernel
theorem dX4_wornAmiss_2 : decode cX4_wornAmiss 2 = .ok (.iconst 0, 1) := by decide +kernel
theorem dX4_wornAmiss_3 : decode cX4_wornAmiss 3 = .ok (.istore_n 3, 1) := by decide +kernel
theorem dX4_wornAmiss_4 : decode cX4_wornAmiss 4 = .ok (.iload_n 3, 1) := by decide +kernel
theorem dX4_wornAmiss_5 : decode cX4_wornAmiss 5 = .ok (.bipush 12, 2) := by decide +kernel
theorem dX4_wornAmiss_7 : decode cX4_wornAmiss 7 = .ok (.if_icmp .ge 105, 3) := by decide +kernel
theorem dX4_wornAmiss_10 : decode cX4_wornAmiss 10 = .ok (.iconst 0, 1) := by decide +kernel
theorem dX4_wornAmiss_11 : decode cX4_wornAmiss 11 = .ok (.istore 4, 2) := by decide +kernel
theorem dX4_wornAmiss_13 : decode cX4_wornAmiss 13 = .ok (.iload 4, 2) := by decide +kernel
theorem dX4_wornAmiss_15 : decode cX4_wornAmiss 15 = .ok (.aload_n 0, 1) := by decide +kernel
theorem dX4_wornAmiss_16 : decode cX4_wornAmiss 16 = .ok (.getfield 21, 3) := by decide +kernel
theorem dX4_wornAmiss_19 : decode cX4_wornAmiss 19 = .ok (.getfield 142, 3) := by decide +kernel
theorem dX4_wornAmiss_22 : decode cX4_wornAmiss 22 = .ok (.if_icmp .ge 84, 3) := by decide +kernel
theorem dX4_wornAmiss_25 : decode cX4_wornAmiss 25 = .ok (.aload_n 0, 1) := by decide +kernel
theorem dX4_wornAmiss_26 : decode cX4_wornAmiss 26 = .ok (.getfield 21, 3) := by decide +kernel
theorem dX4_wornAmiss_29 : decode cX4_wornAmiss 29 = .ok (.iload_n 3, 1) := by decide +kernel
theorem dX4_wornAmiss_30 : decode cX4_wornAmiss 30 = .ok (.iload 4, 2) := by decide +kernel
theorem dX4_wornAmiss_32 : decode cX4_wornAmiss 32 = .ok (.invokevirtual 143, 3) := by decide +kernel
theorem dX4_wornAmiss_35 : decode cX4_wornAmiss 35 = .ok (.istore 5, 2) := by decide +kernel
theorem dX4_wornAmiss_37 : decode cX4_wornAmiss 37 = .ok (.iload 5, 2) := by decide +kernel
theorem dX4_wornAmiss_39 : decode cX4_wornAmiss 39 = .ok (.iconst (-1), 1) := by decide +kernel
theorem dX4_wornAmiss_40 : decode cX4_wornAmiss 40 = .ok (.if_icmp .ne 6, 3) := by decide +kernel
theorem dX4_wornAmiss_43 : decode cX4_wornAmiss 43 = .ok (.goto 57, 3) := by decide +kernel
theorem dX4_wornAmiss_46 : decode cX4_wornAmiss 46 = .ok (.iload_n 1, 1) := by decide +kernel
theorem dX4_wornAmiss_47 : decode cX4_wornAmiss 47 = .ok (.iconst 2, 1) := by decide +kernel
theorem dX4_wornAmiss_48 : decode cX4_wornAmiss 48 = .ok (.if_icmp .ne 22, 3) := by decide +kernel
theorem dX4_wornAmiss_51 : decode cX4_wornAmiss 51 = .ok (.aload_n 0, 1) := by decide +kernel
theorem dX4_wornAmiss_52 : decode cX4_wornAmiss 52 = .ok (.iload 5, 2) := by decide +kernel
theorem dX4_wornAmiss_54 : decode cX4_wornAmiss 54 = .ok (.iload 4, 2) := by decide +kernel
theorem dX4_wornAmiss_56 : decode cX4_wornAmiss 56 = .ok (.invokevirtual 146, 3) := by decide +kernel
theorem dX4_wornAmiss_59 : decode cX4_wornAmiss 59 = .ok (.ifCond .le 7, 3) := by decide +kernel
theorem dX4_wornAmiss_62 : decode cX4_wornAmiss 62 = .ok (.iconst 1, 1) := by decide +kernel
theorem dX4_wornAmiss_63 : decode cX4_wornAmiss 63 = .ok (.goto 27, 3) := by decide +kernel
theorem dX4_wornAmiss_66 : decode cX4_wornAmiss 66 = .ok (.iconst 0, 1) := by decide +kernel
theorem dX4_wornAmiss_67 : decode cX4_wornAmiss 67 = .ok (.goto 23, 3) := by decide +kernel
theorem dX4_wornAmiss_70 : decode cX4_wornAmiss 70 = .ok (.iload_n 1, 1) := by decide +kernel
theorem dX4_wornAmiss_71 : decode cX4_wornAmiss 71 = .ok (.iconst 3, 1) := by decide +kernel
theorem dX4_wornAmiss_72 : decode cX4_wornAmiss 72 = .ok (.if_icmp .ne 12, 3) := by decide +kernel
theorem dX4_wornAmiss_75 : decode cX4_wornAmiss 75 = .ok (.aload_n 0, 1) := by decide +kernel
theorem dX4_wornAmiss_76 : decode cX4_wornAmiss 76 = .ok (.iload 5, 2) := by decide +kernel
theorem dX4_wornAmiss_78 : decode cX4_wornAmiss 78 = .ok (.invokevirtual 73, 3) := by decide +kernel
theorem dX4_wornAmiss_81 : decode cX4_wornAmiss 81 = .ok (.goto 9, 3) := by decide +kernel
theorem dX4_wornAmiss_84 : decode cX4_wornAmiss 84 = .ok (.aload_n 0, 1) := by decide +kernel
theorem dX4_wornAmiss_85 : decode cX4_wornAmiss 85 = .ok (.iload 5, 2) := by decide +kernel
theorem dX4_wornAmiss_87 : decode cX4_wornAmiss 87 = .ok (.invokevirtual 113, 3) := by decide +kernel
theorem dX4_wornAmiss_90 : decode cX4_wornAmiss 90 = .ok (.istore 6, 2) := by decide +kernel
theorem dX4_wornAmiss_92 : decode cX4_wornAmiss 92 = .ok (.iload 6, 2) := by decide +kernel
theorem dX4_wornAmiss_94 : decode cX4_wornAmiss 94 = .ok (.ifCond .eq 6, 3) := by decide +kernel
theorem dX4_wornAmiss_97 : decode cX4_wornAmiss 97 = .ok (.iinc 2 1, 3) := by decide +kernel
theorem dX4_wornAmiss_100 : decode cX4_wornAmiss 100 = .ok (.iinc 4 1, 3) := by decide +kernel
theorem dX4_wornAmiss_103 : decode cX4_wornAmiss 103 = .ok (.goto (-90), 3) := by decide +kernel
theorem dX4_wornAmiss_106 : decode cX4_wornAmiss 106 = .ok (.iinc 3 1, 3) := by decide +kernel
theorem dX4_wornAmiss_109 : decode cX4_wornAmiss 109 = .ok (.goto (-105), 3) := by decide +kernel
theorem dX4_wornAmiss_112 : decode cX4_wornAmiss 112 = .ok (.iload_n 2, 1) := by decide +kernel
theorem dX4_wornAmiss_113 : decode cX4_wornAmiss 113 = .ok (.ireturn, 1) := by decide +kernel
theorem dX4_soilAll_0 : decode cX4_soilAll 0 = .ok (.iconst 0, 1) := by decide +kernel
theorem dX4_soilAll_1 : decode cX4_soilAll 1 = .ok (.istore_n 1, 1) := by decide +kernel
theorem dX4_soilAll_2 : decode cX4_soilAll 2 = .ok (.iload_n 1, 1) := by decide +kernel
theorem dX4_soilAll_3 : decode cX4_soilAll 3 = .ok (.aload_n 0, 1) := by decide +kernel
theorem dX4_soilAll_4 : decode cX4_soilAll 4 = .ok (.getfield 12, 3) := by decide +kernel
theorem dX4_soilAll_7 : decode cX4_soilAll 7 = .ok (.getfield 70, 3) := by decide +kernel
theorem dX4_soilAll_10 : decode cX4_soilAll 10 = .ok (.if_icmp .ge 25, 3) := by decide +kernel
theorem dX4_soilAll_13 : decode cX4_soilAll 13 = .ok (.aload_n 0, 1) := by decide +kernel
theorem dX4_soilAll_14 : decode cX4_soilAll 14 = .ok (.getfield 12, 3) := by decide +kernel
theorem dX4_soilAll_17 : decode cX4_soilAll 17 = .ok (.iload_n 1, 1) := by decide +kernel
theorem dX4_soilAll_18 : decode cX4_soilAll 18 = .ok (.aload_n 0, 1) := by decide +kernel
theorem dX4_soilAll_19 : decode cX4_soilAll 19 = .ok (.getfield 21, 3) := by decide +kernel
theorem dX4_soilAll_22 : decode cX4_soilAll 22 = .ok (.iload_n 1, 1) := by decide +kernel
theorem dX4_soilAll_23 : decode cX4_soilAll 23 = .ok (.invokevirtual 149, 3) := by decide +kernel
theorem dX4_soilAll_26 : decode cX4_soilAll 26 = .ok (.invokevirtual 152, 3) := by decide +kernel
theorem dX4_soilAll_29 : decode cX4_soilAll 29 = .ok (.iinc 1 1, 3) := by decide +kernel
theorem dX4_soilAll_32 : decode cX4_soilAll 32 = .ok (.goto (-30), 3) := by decide +kernel
theorem dX4_soilAll_35 : decode cX4_soilAll 35 = .ok (.return_, 1) := by decide +kernel
theorem dX4_allowsLoad_0 : decode cX4_allowsLoad 0 = .ok (.iload_n 2, 1) := by decide +kernel
theorem dX4_allowsLoad_1 : decode cX4_allowsLoad 1 = .ok (.invokestatic 156, 3) := by decide +kernel
theorem dX4_allowsLoad_4 : decode cX4_allowsLoad 4 = .ok (.iconst 5, 1) := by decide +kernel
theorem dX4_allowsLoad_5 : decode cX4_allowsLoad 5 = .ok (.if_icmp .le 5, 3) := by decide +kernel
theorem dX4_allowsLoad_8 : decode cX4_allowsLoad 8 = .ok (.iconst 0, 1) := by decide +kernel
theorem dX4_allowsLoad_9 : decode cX4_allowsLoad 9 = .ok (.ireturn, 1) := by decide +kernel
theorem dX4_allowsLoad_10 : decode cX4_allowsLoad 10 = .ok (.iconst 0, 1) := by decide +kernel
theorem dX4_allowsLoad_11 : decode cX4_allowsLoad 11 = .ok (.istore_n 3, 1) := by decide +kernel
theorem dX4_allowsLoad_12 : decode cX4_allowsLoad 12 = .ok (.iconst 0, 1) := by decide +kernel
theorem dX4_allowsLoad_13 : decode cX4_allowsLoad 13 = .ok (.istore 4, 2) := by decide +kernel
theorem dX4_allowsLoad_15 : decode cX4_allowsLoad 15 = .ok (.iload 4, 2) := by decide +kernel
theorem dX4_allowsLoad_17 : decode cX4_allowsLoad 17 = .ok (.aload_n 0, 1) := by decide +kernel
theorem dX4_allowsLoad_18 : decode cX4_allowsLoad 18 = .ok (.getfield 12, 3) := by decide +kernel
theorem dX4_allowsLoad_21 : decode cX4_allowsLoad 21 = .ok (.getfield 70, 3) := by decide +kernel
theorem dX4_allowsLoad_24 : decode cX4_allowsLoad 24 = .ok (.if_icmp .ge 62, 3) := by decide +kernel
theorem dX4_allowsLoad_27 : decode cX4_allowsLoad 27 = .ok (.iload_n 2, 1) := by decide +kernel
theorem dX4_allowsLoad_28 : decode cX4_allowsLoad 28 = .ok (.iload 4, 2) := by decide +kernel
theorem dX4_allowsLoad_30 : decode cX4_allowsLoad 30 = .ok (.invokestatic 161, 3) := by decide +kernel
theorem dX4_allowsLoad_33 : decode cX4_allowsLoad 33 = .ok (.ifCond .ne 6, 3) := by decide +kernel
theorem dX4_allowsLoad_36 : decode cX4_allowsLoad 36 = .ok (.goto 44, 3) := by decide +kernel
theorem dX4_allowsLoad_39 : decode cX4_allowsLoad 39 = .ok (.aload_n 0, 1) := by decide +kernel
theorem dX4_allowsLoad_40 : decode cX4_allowsLoad 40 = .ok (.iload 4, 2) := by decide +kernel
theorem dX4_allowsLoad_42 : decode cX4_allowsLoad 42 = .ok (.invokevirtual 73, 3) := by decide +kernel
theorem dX4_allowsLoad_45 : decode cX4_allowsLoad 45 = .ok (.ifCond .ne 16, 3) := by decide +kernel
theorem dX4_allowsLoad_48 : decode cX4_allowsLoad 48 = .ok (.aload_n 0, 1) := by decide +kernel
theorem dX4_allowsLoad_49 : decode cX4_allowsLoad 49 = .ok (.getfield 12, 3) := by decide +kernel
theorem dX4_allowsLoad_52 : decode cX4_allowsLoad 52 = .ok (.iload 4, 2) := by decide +kernel
theorem dX4_allowsLoad_54 : decode cX4_allowsLoad 54 = .ok (.iload_n 1, 1) := by decide +kernel
theorem dX4_allowsLoad_55 : decode cX4_allowsLoad 55 = .ok (.invokevirtual 164, 3) := by decide +kernel
theorem dX4_allowsLoad_58 : decode cX4_allowsLoad 58 = .ok (.ifCond .ne 5, 3) := by decide +kernel
theorem dX4_allowsLoad_61 : decode cX4_allowsLoad 61 = .ok (.iconst 0, 1) := by decide +kernel
theorem dX4_allowsLoad_62 : decode cX4_allowsLoad 62 = .ok (.ireturn, 1) := by decide +kernel
theorem dX4_allowsLoad_63 : decode cX4_allowsLoad 63 = .ok (.iload_n 3, 1) := by decide +kernel
theorem dX4_allowsLoad_64 : decode cX4_allowsLoad 64 = .ok (.iconst 1, 1) := by decide +kernel
theorem dX4_allowsLoad_65 : decode cX4_allowsLoad 65 = .ok (.aload_n 0, 1) := by decide +kernel
theorem dX4_allowsLoad_66 : decode cX4_allowsLoad 66 = .ok (.getfield 12, 3) := by decide +kernel
theorem dX4_allowsLoad_69 : decode cX4_allowsLoad 69 = .ok (.getfield 167, 3) := by decide +kernel
theorem dX4_allowsLoad_72 : decode cX4_allowsLoad 72 = .ok (.iload 4, 2) := by decide +kernel
theorem dX4_allowsLoad_74 : decode cX4_allowsLoad 74 = .ok (.invokestatic 80, 3) := by decide +kernel
theorem dX4_allowsLoad_77 : decode cX4_allowsLoad 77 = .ok (.ishl, 1) := by decide +kernel
theorem dX4_allowsLoad_78 : decode cX4_allowsLoad 78 = .ok (.ior, 1) := by decide +kernel
theorem dX4_allowsLoad_79 : decode cX4_allowsLoad 79 = .ok (.istore_n 3, 1) := by decide +kernel
theorem dX4_allowsLoad_80 : decode cX4_allowsLoad 80 = .ok (.iinc 4 1, 3) := by decide +kernel
theorem dX4_allowsLoad_83 : decode cX4_allowsLoad 83 = .ok (.goto (-68), 3) := by decide +kernel
theorem dX4_allowsLoad_86 : decode cX4_allowsLoad 86 = .ok (.iload_n 1, 1) := by decide +kernel
theorem dX4_allowsLoad_87 : decode cX4_allowsLoad 87 = .ok (.iconst 3, 1) := by decide +kernel
theorem dX4_allowsLoad_88 : decode cX4_allowsLoad 88 = .ok (.if_icmp .eq 11, 3) := by decide +kernel
theorem dX4_allowsLoad_91 : decode cX4_allowsLoad 91 = .ok (.iload_n 3, 1) := by decide +kernel
theorem dX4_allowsLoad_92 : decode cX4_allowsLoad 92 = .ok (.invokestatic 156, 3) := by decide +kernel
theorem dX4_allowsLoad_95 : decode cX4_allowsLoad 95 = .ok (.iconst 1, 1) := by decide +kernel
theorem dX4_allowsLoad_96 : decode cX4_allowsLoad 96 = .ok (.if_icmp .gt 7, 3) := by decide +kernel
theorem dX4_allowsLoad_99 : decode cX4_allowsLoad 99 = .ok (.iconst 1, 1) := by decide +kernel
theorem dX4_allowsLoad_100 : decode cX4_allowsLoad 100 = .ok (.goto 4, 3) := by decide +kernel
theorem dX4_allowsLoad_103 : decode cX4_allowsLoad 103 = .ok (.iconst 0, 1) := by decide +kernel
theorem dX4_allowsLoad_104 : decode cX4_allowsLoad 104 = .ok (.ireturn, 1) := by decide +kernel
theorem dX4_dirtySet_0 : decode cX4_dirtySet 0 = .ok (.iconst 0, 1) := by decide +kernel
theorem dX4_dirtySet_1 : decode cX4_dirtySet 1 = .ok (.istore_n 3, 1) := by decide +kernel
theorem dX4_dirtySet_2 : decode cX4_dirtySet 2 = .ok (.iconst 0, 1) := by decide +kernel
theorem dX4_dirtySet_3 : decode cX4_dirtySet 3 = .ok (.istore 4, 2) := by decide +kernel
theorem dX4_dirtySet_5 : decode cX4_dirtySet 5 = .ok (.iload 4, 2) := by decide +kernel
theorem dX4_dirtySet_7 : decode cX4_dirtySet 7 = .ok (.aload_n 0, 1) := by decide +kernel
theorem dX4_dirtySet_8 : decode cX4_dirtySet 8 = .ok (.getfield 12, 3) := by decide +kernel
theorem dX4_dirtySet_11 : decode cX4_dirtySet 11 = .ok (.getfield 70, 3) := by decide +kernel
theorem dX4_dirtySet_14 : decode cX4_dirtySet 14 = .ok (.if_icmp .ge 86, 3) := by decide +kernel
theorem dX4_dirtySet_17 : decode cX4_dirtySet 17 = .ok (.iload_n 1, 1) := by decide +kernel
theorem dX4_dirtySet_18 : decode cX4_dirtySet 18 = .ok (.iconst 3, 1) := by decide +kernel
theorem dX4_dirtySet_19 : decode cX4_dirtySet 19 = .ok (.if_icmp .eq 19, 3) := by decide +kernel
theorem dX4_dirtySet_22 : decode cX4_dirtySet 22 = .ok (.aload_n 0, 1) := by decide +kernel
theorem dX4_dirtySet_23 : decode cX4_dirtySet 23 = .ok (.getfield 12, 3) := by decide +kernel
theorem dX4_dirtySet_26 : decode cX4_dirtySet 26 = .ok (.getfield 167, 3) := by decide +kernel
theorem dX4_dirtySet_29 : decode cX4_dirtySet 29 = .ok (.iload 4, 2) := by decide +kernel
theorem dX4_dirtySet_31 : decode cX4_dirtySet 31 = .ok (.invokestatic 80, 3) := by decide +kernel
theorem dX4_dirtySet_34 : decode cX4_dirtySet 34 = .ok (.iload_n 2, 1) := by decide +kernel
theorem dX4_dirtySet_35 : decode cX4_dirtySet 35 = .ok (.if_icmp .ne 7, 3) := by decide +kernel
theorem dX4_dirtySet_38 : decode cX4_dirtySet 38 = .ok (.iconst 1, 1) := by decide +kernel
theorem dX4_dirtySet_39 : decode cX4_dirtySet 39 = .ok (.goto 4, 3) := by decide +kernel
theorem dX4_dirtySet_42 : decode cX4_dirtySet 42 = .ok (.iconst 0, 1) := by decide +kernel
theorem dX4_dirtySet_43 : decode cX4_dirtySet 43 = .ok (.istore 5, 2) := by decide +kernel
theorem dX4_dirtySet_45 : decode cX4_dirtySet 45 = .ok (.iload 5, 2) := by decide +kernel
theorem dX4_dirtySet_47 : decode cX4_dirtySet 47 = .ok (.ifCond .eq 47, 3) := by decide +kernel
theorem dX4_dirtySet_50 : decode cX4_dirtySet 50 = .ok (.aload_n 0, 1) := by decide +kernel
theorem dX4_dirtySet_51 : decode cX4_dirtySet 51 = .ok (.getfield 12, 3) := by decide +kernel
theorem dX4_dirtySet_54 : decode cX4_dirtySet 54 = .ok (.getfield 77, 3) := by decide +kernel
theorem dX4_dirtySet_57 : decode cX4_dirtySet 57 = .ok (.iload 4, 2) := by decide +kernel
theorem dX4_dirtySet_59 : decode cX4_dirtySet 59 = .ok (.invokestatic 80, 3) := by decide +kernel
theorem dX4_dirtySet_62 : decode cX4_dirtySet 62 = .ok (.ifCond .le 32, 3) := by decide +kernel
theorem dX4_dirtySet_65 : decode cX4_dirtySet 65 = .ok (.aload_n 0, 1) := by decide +kernel
theorem dX4_dirtySet_66 : decode cX4_dirtySet 66 = .ok (.iload 4, 2) := by decide +kernel
theorem dX4_dirtySet_68 : decode cX4_dirtySet 68 = .ok (.invokevirtual 73, 3) := by decide +kernel
theorem dX4_dirtySet_71 : decode cX4_dirtySet 71 = .ok (.ifCond .ne 23, 3) := by decide +kernel
theorem dX4_dirtySet_74 : decode cX4_dirtySet 74 = .ok (.aload_n 0, 1) := by decide +kernel
theorem dX4_dirtySet_75 : decode cX4_dirtySet 75 = .ok (.getfield 12, 3) := by decide +kernel
theorem dX4_dirtySet_78 : decode cX4_dirtySet 78 = .ok (.iload 4, 2) := by decide +kernel
theorem dX4_dirtySet_80 : decode cX4_dirtySet 80 = .ok (.iload_n 1, 1) := by decide +kernel
theorem dX4_dirtySet_81 : decode cX4_dirtySet 81 = .ok (.invokevirtual 164, 3) := by decide +kernel
theorem dX4_dirtySet_84 : decode cX4_dirtySet 84 = .ok (.ifCond .eq 10, 3) := by decide +kernel
theorem dX4_dirtySet_87 : decode cX4_dirtySet 87 = .ok (.iload_n 3, 1) := by decide +kernel
theorem dX4_dirtySet_88 : decode cX4_dirtySet 88 = .ok (.iconst 1, 1) := by decide +kernel
theorem dX4_dirtySet_89 : decode cX4_dirtySet 89 = .ok (.iload 4, 2) := by decide +kernel
theorem dX4_dirtySet_91 : decode cX4_dirtySet 91 = .ok (.ishl, 1) := by decide +kernel
theorem dX4_dirtySet_92 : decode cX4_dirtySet 92 = .ok (.ior, 1) := by decide +kernel
theorem dX4_dirtySet_93 : decode cX4_dirtySet 93 = .ok (.istore_n 3, 1) := by decide +kernel
theorem dX4_dirtySet_94 : decode cX4_dirtySet 94 = .ok (.iinc 4 1, 3) := by decide +kernel
theorem dX4_dirtySet_97 : decode cX4_dirtySet 97 = .ok (.goto (-92), 3) := by decide +kernel
theorem dX4_dirtySet_100 : decode cX4_dirtySet 100 = .ok (.iload_n 3, 1) := by decide +kernel
theorem dX4_dirtySet_101 : decode cX4_dirtySet 101 = .ok (.ireturn, 1) := by decide +kernel
theorem dX5_init_0 : decode cX5_init 0 = .ok (.aload_n 0, 1) := by decide +kernel
theorem dX5_init_1 : decode cX5_init 1 = .ok (.invokespecial 3, 3) := by decide +kernel
theorem dX5_init_4 : decode cX5_init 4 = .ok (.aload_n 0, 1) := by decide +kernel
theorem dX5_init_5 : decode cX5_init 5 = .ok (.bipush 120, 2) := by decide +kernel
theorem dX5_init_7 : decode cX5_init 7 = .ok (.newarray .int, 2) := by decide +kernel
theorem dX5_init_9 : decode cX5_init 9 = .ok (.putfield 9, 3) := by decide +kernel
theorem dX5_init_12 : decode cX5_init 12 = .ok (.return_, 1) := by decide +kernel
theorem dX5_add_0 : decode cX5_add 0 = .ok (.aload_n 0, 1) := by decide +kernel
theorem dX5_add_1 : decode cX5_add 1 = .ok (.getfield 9, 3) := by decide +kernel
theorem dX5_add_4 : decode cX5_add 4 = .ok (.aload_n 0, 1) := by decide +kernel
theorem dX5_add_5 : decode cX5_add 5 = .ok (.getfield 15, 3) := by decide +kernel
theorem dX5_add_8 : decode cX5_add 8 = .ok (.iload_n 1, 1) := by decide +kernel
theorem dX5_add_9 : decode cX5_add 9 = .ok (.invokestatic 19, 3) := by decide +kernel
theorem dX5_add_12 : decode cX5_add 12 = .ok (.aload_n 0, 1) := by decide +kernel
theorem dX5_add_13 : decode cX5_add 13 = .ok (.dup, 1) := by decide +kernel
theorem dX5_add_14 : decode cX5_add 14 = .ok (.getfield 15, 3) := by decide +kernel
theorem dX5_add_17 : decode cX5_add 17 = .ok (.iconst 1, 1) := by decide +kernel
theorem dX5_add_18 : decode cX5_add 18 = .ok (.iadd, 1) := by decide +kernel
theorem dX5_add_19 : decode cX5_add 19 = .ok (.putfield 15, 3) := by decide +kernel
theorem dX5_add_22 : decode cX5_add 22 = .ok (.aload_n 0, 1) := by decide +kernel
theorem dX5_add_23 : decode cX5_add 23 = .ok (.getfield 15, 3) := by decide +kernel
theorem dX5_add_26 : decode cX5_add 26 = .ok (.ireturn, 1) := by decide +kernel
theorem dX5_empty_0 : decode cX5_empty 0 = .ok (.aload_n 0, 1) := by decide +kernel
theorem dX5_empty_1 : decode cX5_empty 1 = .ok (.getfield 15, 3) := by decide +kernel
theorem dX5_empty_4 : decode cX5_empty 4 = .ok (.istore_n 1, 1) := by decide +kernel
theorem dX5_empty_5 : decode cX5_empty 5 = .ok (.aload_n 0, 1) := by decide +kernel
theorem dX5_empty_6 : decode cX5_empty 6 = .ok (.iconst 0, 1) := by decide +kernel
theorem dX5_empty_7 : decode cX5_empty 7 = .ok (.putfield 15, 3) := by decide +kernel
theorem dX5_empty_10 : decode cX5_empty 10 = .ok (.iload_n 1, 1) := by decide +kernel
theorem dX5_empty_11 : decode cX5_empty 11 = .ok (.ireturn, 1) := by decide +kernel
theorem dX6_init_0 : decode cX6_init 0 = .ok (.aload_n 0, 1) := by decide +kernel
theorem dX6_init_1 : decode cX6_init 1 = .ok (.invokespecial 3, 3) := by decide +kernel
theorem dX6_init_4 : decode cX6_init 4 = .ok (.aload_n 0, 1) := by decide +kernel
theorem dX6_init_5 : decode cX6_init 5 = .ok (.bipush 48, 2) := by decide +kernel
theorem dX6_init_7 : decode cX6_init 7 = .ok (.newarray .int, 2) := by decide +kernel
theorem dX6_init_9 : decode cX6_init 9 = .ok (.putfield 9, 3) := by decide +kernel
theorem dX6_init_12 : decode cX6_init 12 = .ok (.aload_n 0, 1) := by decide +kernel
theorem dX6_init_13 : decode cX6_init 13 = .ok (.bipush 16, 2) := by decide +kernel
theorem dX6_init_15 : decode cX6_init 15 = .ok (.newarray .int, 2) := by decide +kernel
theorem dX6_init_17 : decode cX6_init 17 = .ok (.putfield 15, 3) := by decide +kernel
theorem dX6_init_20 : decode cX6_init 20 = .ok (.aload_n 0, 1) := by decide +kernel
theorem dX6_init_21 : decode cX6_init 21 = .ok (.bipush 16, 2) := by decide +kernel
theorem dX6_init_23 : decode cX6_init 23 = .ok (.newarray .int, 2) := by decide +kernel
theorem dX6_init_25 : decode cX6_init 25 = .ok (.putfield 18, 3) := by decide +kernel
theorem dX6_init_28 : decode cX6_init 28 = .ok (.aload_n 0, 1) := by decide +kernel
theorem dX6_init_29 : decode cX6_init 29 = .ok (.bipush 16, 2) := by decide +kernel
theorem dX6_init_31 : decode cX6_init 31 = .ok (.newarray .int, 2) := by decide +kernel
theorem dX6_init_33 : decode cX6_init 33 = .ok (.putfield 21, 3) := by decide +kernel
theorem dX6_init_36 : decode cX6_init 36 = .ok (.aload_n 0, 1) := by decide +kernel
theorem dX6_init_37 : decode cX6_init 37 = .ok (.bipush 16, 2) := by decide +kernel
theorem dX6_init_39 : decode cX6_init 39 = .ok (.newarray .int, 2) := by decide +kernel
theorem dX6_init_41 : decode cX6_init 41 = .ok (.putfield 24, 3) := by decide +kernel
theorem dX6_init_44 : decode cX6_init 44 = .ok (.aload_n 0, 1) := by decide +kernel
theorem dX6_init_45 : decode cX6_init 45 = .ok (.bipush 16, 2) := by decide +kernel
theorem dX6_init_47 : decode cX6_init 47 = .ok (.newarray .int, 2) := by decide +kernel
theorem dX6_init_49 : decode cX6_init 49 = .ok (.putfield 27, 3) := by decide +kernel
theorem dX6_init_52 : decode cX6_init 52 = .ok (.aload_n 0, 1) := by decide +kernel
theorem dX6_init_53 : decode cX6_init 53 = .ok (.bipush 96, 2) := by decide +kernel
theorem dX6_init_55 : decode cX6_init 55 = .ok (.newarray .int, 2) := by decide +kernel
theorem dX6_init_57 : decode cX6_init 57 = .ok (.putfield 30, 3) := by decide +kernel
theorem dX6_init_60 : decode cX6_init 60 = .ok (.aload_n 0, 1) := by decide +kernel
theorem dX6_init_61 : decode cX6_init 61 = .ok (.bipush 96, 2) := by decide +kernel
theorem dX6_init_63 : decode cX6_init 63 = .ok (.newarray .int, 2) := by decide +kernel
theorem dX6_init_65 : decode cX6_init 65 = .ok (.putfield 33, 3) := by decide +kernel
theorem dX6_init_68 : decode cX6_init 68 = .ok (.return_, 1) := by decide +kernel
theorem dX6_copyFrom_0 : decode cX6_copyFrom 0 = .ok (.aload_n 0, 1) := by decide +kernel
theorem dX6_copyFrom_1 : decode cX6_copyFrom 1 = .ok (.aload_n 1, 1) := by decide +kernel
theorem dX6_copyFrom_2 : decode cX6_copyFrom 2 = .ok (.getfield 36, 3) := by decide +kernel
theorem dX6_copyFrom_5 : decode cX6_copyFrom 5 = .ok (.putfield 36, 3) := by decide +kernel
theorem dX6_copyFrom_8 : decode cX6_copyFrom 8 = .ok (.aload_n 1, 1) := by decide +kernel
theorem dX6_copyFrom_9 : decode cX6_copyFrom 9 = .ok (.getfield 9, 3) := by decide +kernel
theorem dX6_copyFrom_12 : decode cX6_copyFrom 12 = .ok (.aload_n 0, 1) := by decide +kernel
theorem dX6_copyFrom_13 : decode cX6_copyFrom 13 = .ok (.getfield 9, 3) := by decide +kernel
theorem dX6_copyFrom_16 : decode cX6_copyFrom 16 = .ok (.invokestatic 40, 3) := by decide +kernel
theorem dX6_copyFrom_19 : decode cX6_copyFrom 19 = .ok (.aload_n 1, 1) := by decide +kernel
theorem dX6_copyFrom_20 : decode cX6_copyFrom 20 = .ok (.getfield 15, 3) := by decide +kernel
theorem dX6_copyFrom_23 : decode cX6_copyFrom 23 = .ok (.aload_n 0, 1) := by decide +kernel
theorem dX6_copyFrom_24 : decode cX6_copyFrom 24 = .ok (.getfield 15, 3) := by decide +kernel
theorem dX6_copyFrom_27 : decode cX6_copyFrom 27 = .ok (.invokestatic 40, 3) := by decide +kernel
theorem dX6_copyFrom_30 : decode cX6_copyFrom 30 = .ok (.aload_n 1, 1) := by decide +kernel
theorem dX6_copyFrom_31 : decode cX6_copyFrom 31 = .ok (.getfield 18, 3) := by decide +kernel
theorem dX6_copyFrom_34 : decode cX6_copyFrom 34 = .ok (.aload_n 0, 1) := by decide +kernel
theorem dX6_copyFrom_35 : decode cX6_copyFrom 35 = .ok (.getfield 18, 3) := by decide +kernel
theorem dX6_copyFrom_38 : decode cX6_copyFrom 38 = .ok (.invokestatic 40, 3) := by decide +kernel
theorem dX6_copyFrom_41 : decode cX6_copyFrom 41 = .ok (.aload_n 1, 1) := by decide +kernel
theorem dX6_copyFrom_42 : decode cX6_copyFrom 42 = .ok (.getfield 21, 3) := by decide +kernel
theorem dX6_copyFrom_45 : decode cX6_copyFrom 45 = .ok (.aload_n 0, 1) := by decide +kernel
theorem dX6_copyFrom_46 : decode cX6_copyFrom 46 = .ok (.getfield 21, 3) := by decide +kernel
theorem dX6_copyFrom_49 : decode cX6_copyFrom 49 = .ok (.invokestatic 40, 3) := by decide +kernel
theorem dX6_copyFrom_52 : decode cX6_copyFrom 52 = .ok (.aload_n 1, 1) := by decide +kernel
theorem dX6_copyFrom_53 : decode cX6_copyFrom 53 = .ok (.getfield 24, 3) := by decide +kernel
theorem dX6_copyFrom_56 : decode cX6_copyFrom 56 = .ok (.aload_n 0, 1) := by decide +kernel
theorem dX6_copyFrom_57 : decode cX6_copyFrom 57 = .ok (.getfield 24, 3) := by decide +kernel
theorem dX6_copyFrom_60 : decode cX6_copyFrom 60 = .ok (.invokestatic 40, 3) := by decide +kernel
theorem dX6_copyFrom_63 : decode cX6_copyFrom 63 = .ok (.aload_n 1, 1) := by decide +kernel
theorem dX6_copyFrom_64 : decode cX6_copyFrom 64 = .ok (.getfield 27, 3) := by decide +kernel
theorem dX6_copyFrom_67 : decode cX6_copyFrom 67 = .ok (.aload_n 0, 1) := by decide +kernel
theorem dX6_copyFrom_68 : decode cX6_copyFrom 68 = .ok (.getfield 27, 3) := by decide +kernel
theorem dX6_copyFrom_71 : decode cX6_copyFrom 71 = .ok (.invokestatic 40, 3) := by decide +kernel
theorem dX6_copyFrom_74 : decode cX6_copyFrom 74 = .ok (.aload_n 1, 1) := by decide +kernel
theorem dX6_copyFrom_75 : decode cX6_copyFrom 75 = .ok (.getfield 30, 3) := by decide +kernel
theorem dX6_copyFrom_78 : decode cX6_copyFrom 78 = .ok (.aload_n 0, 1) := by decide +kernel
theorem dX6_copyFrom_79 : decode cX6_copyFrom 79 = .ok (.getfield 30, 3) := by decide +kernel
theorem dX6_copyFrom_82 : decode cX6_copyFrom 82 = .ok (.invokestatic 40, 3) := by decide +kernel
theorem dX6_copyFrom_85 : decode cX6_copyFrom 85 = .ok (.aload_n 1, 1) := by decide +kernel
theorem dX6_copyFrom_86 : decode cX6_copyFrom 86 = .ok (.getfield 33, 3) := by decide +kernel
theorem dX6_copyFrom_89 : decode cX6_copyFrom 89 = .ok (.aload_n 0, 1) := by decide +kernel
theorem dX6_copyFrom_90 : decode cX6_copyFrom 90 = .ok (.getfield 33, 3) := by decide +kernel
theorem dX6_copyFrom_93 : decode cX6_copyFrom 93 = .ok (.invokestatic 40, 3) := by decide +kernel
theorem dX6_copyFrom_96 : decode cX6_copyFrom 96 = .ok (.return_, 1) := by decide +kernel
theorem dX6_has_0 : decode cX6_has 0 = .ok (.iload_n 1, 1) := by decide +kernel
theorem dX6_has_1 : decode cX6_has 1 = .ok (.ifCond .lt 15, 3) := by decide +kernel
theorem dX6_has_4 : decode cX6_has 4 = .ok (.iload_n 1, 1) := by decide +kernel
theorem dX6_has_5 : decode cX6_has 5 = .ok (.aload_n 0, 1) := by decide +kernel
theorem dX6_has_6 : decode cX6_has 6 = .ok (.getfield 36, 3) := by decide +kernel
theorem dX6_has_9 : decode cX6_has 9 = .ok (.if_icmp .ge 7, 3) := by decide +kernel
theorem dX6_has_12 : decode cX6_has 12 = .ok (.iconst 1, 1) := by decide +kernel
theorem dX6_has_13 : decode cX6_has 13 = .ok (.goto 4, 3) := by decide +kernel
theorem dX6_has_16 : decode cX6_has 16 = .ok (.iconst 0, 1) := by decide +kernel
theorem dX6_has_17 : decode cX6_has 17 = .ok (.ireturn, 1) := by decide +kernel
theorem dX6_add_0 : decode cX6_add 0 = .ok (.aload_n 0, 1) := by decide +kernel
theorem dX6_add_1 : decode cX6_add 1 = .ok (.getfield 36, 3) := by decide +kernel
theorem dX6_add_4 : decode cX6_add 4 = .ok (.istore 7, 2) := by decide +kernel
theorem dX6_add_6 : decode cX6_add 6 = .ok (.aload_n 0, 1) := by decide +kernel
theorem dX6_add_7 : decode cX6_add 7 = .ok (.getfield 9, 3) := by decide +kernel
theorem dX6_add_10 : decode cX6_add 10 = .ok (.iload 7, 2) := by decide +kernel
theorem dX6_add_12 : decode cX6_add 12 = .ok (.iconst 3, 1) := by decide +kernel
theorem dX6_add_13 : decode cX6_add 13 = .ok (.imul, 1) := by decide +kernel
theorem dX6_add_14 : decode cX6_add 14 = .ok (.iload_n 1, 1) := by decide +kernel
theorem dX6_add_15 : decode cX6_add 15 = .ok (.invokestatic 44, 3) := by decide +kernel
theorem dX6_add_18 : decode cX6_add 18 = .ok (.aload_n 0, 1) := by decide +kernel
theorem dX6_add_19 : decode cX6_add 19 = .ok (.getfield 9, 3) := by decide +kernel
theorem dX6_add_22 : decode cX6_add 22 = .ok (.iload 7, 2) := by decide +kernel
theorem dX6_add_24 : decode cX6_add 24 = .ok (.iconst 3, 1) := by decide +kernel
theorem dX6_add_25 : decode cX6_add 25 = .ok (.imul, 1) := by decide +kernel
theorem dX6_add_26 : decode cX6_add 26 = .ok (.iconst 1, 1) := by decide +kernel
theorem dX6_add_27 : decode cX6_add 27 = .ok (.iadd, 1) := by decide +kernel
theorem dX6_add_28 : decode cX6_add 28 = .ok (.iload_n 2, 1) := by decide +kernel
theorem dX6_add_29 : decode cX6_add 29 = .ok (.invokestatic 44, 3) := by decide +kernel
theorem dX6_add_32 : decode cX6_add 32 = .ok (.aload_n 0, 1) := by decide +kernel
theorem dX6_add_33 : decode cX6_add 33 = .ok (.getfield 9, 3) := by decide +kernel
theorem dX6_add_36 : decode cX6_add 36 = .ok (.iload 7, 2) := by decide +kernel
theorem dX6_add_38 : decode cX6_add 38 = .ok (.iconst 3, 1) := by decide +kernel
theorem dX6_add_39 : decode cX6_add 39 = .ok (.imul, 1) := by decide +kernel
theorem dX6_add_40 : decode cX6_add 40 = .ok (.iconst 2, 1) := by decide +kernel
theorem dX6_add_41 : decode cX6_add 41 = .ok (.iadd, 1) := by decide +kernel
theorem dX6_add_42 : decode cX6_add 42 = .ok (.iload_n 3, 1) := by decide +kernel
theorem dX6_add_43 : decode cX6_add 43 = .ok (.invokestatic 44, 3) := by decide +kernel
theorem dX6_add_46 : decode cX6_add 46 = .ok (.aload_n 0, 1) := by decide +kernel
theorem dX6_add_47 : decode cX6_add 47 = .ok (.getfield 15, 3) := by decide +kernel
theorem dX6_add_50 : decode cX6_add 50 = .ok (.iload 7, 2) := by decide +kernel
theorem dX6_add_52 : decode cX6_add 52 = .ok (.iload 4, 2) := by decide +kernel
theorem dX6_add_54 : decode cX6_add 54 = .ok (.invokestatic 44, 3) := by decide +kernel
theorem dX6_add_57 : decode cX6_add 57 = .ok (.aload_n 0, 1) := by decide +kernel
theorem dX6_add_58 : decode cX6_add 58 = .ok (.getfield 18, 3) := by decide +kernel
theorem dX6_add_61 : decode cX6_add 61 = .ok (.iload 7, 2) := by decide +kernel
theorem dX6_add_63 : decode cX6_add 63 = .ok (.iload 5, 2) := by decide +kernel
theorem dX6_add_65 : decode cX6_add 65 = .ok (.invokestatic 44, 3) := by decide +kernel
theorem dX6_add_68 : decode cX6_add 68 = .ok (.aload_n 0, 1) := by decide +kernel
theorem dX6_add_69 : decode cX6_add 69 = .ok (.getfield 21, 3) := by decide +kernel
theorem dX6_add_72 : decode cX6_add 72 = .ok (.iload 7, 2) := by decide +kernel
theorem dX6_add_74 : decode cX6_add 74 = .ok (.iload 6, 2) := by decide +kernel
theorem dX6_add_76 : decode cX6_add 76 = .ok (.invokestatic 44, 3) := by decide +kernel
theorem dX6_add_79 : decode cX6_add 79 = .ok (.aload_n 0, 1) := by decide +kernel
theorem dX6_add_80 : decode cX6_add 80 = .ok (.getfield 24, 3) := by decide +kernel
theorem dX6_add_83 : decode cX6_add 83 = .ok (.iload 7, 2) := by decide +kernel
theorem dX6_add_85 : decode cX6_add 85 = .ok (.iconst 0, 1) := by decide +kernel
theorem dX6_add_86 : decode cX6_add 86 = .ok (.invokestatic 44, 3) := by decide +kernel
theorem dX6_add_89 : decode cX6_add 89 = .ok (.aload_n 0, 1) := by decide +kernel
theorem dX6_add_90 : decode cX6_add 90 = .ok (.getfield 27, 3) := by decide +kernel
theorem dX6_add_93 : decode cX6_add 93 = .ok (.iload 7, 2) := by decide +kernel
theorem dX6_add_95 : decode cX6_add 95 = .ok (.iconst 0, 1) := by decide +kernel
theorem dX6_add_96 : decode cX6_add 96 = .ok (.invokestatic 44, 3) := by decide +kernel
theorem dX6_add_99 : decode cX6_add 99 = .ok (.aload_n 0, 1) := by decide +kernel
theorem dX6_add_100 : decode cX6_add 100 = .ok (.dup, 1) := by decide +kernel
theorem dX6_add_101 : decode cX6_add 101 = .ok (.getfield 36, 3) := by decide +kernel
theorem dX6_add_104 : decode cX6_add 104 = .ok (.iconst 1, 1) := by decide +kernel
theorem dX6_add_105 : decode cX6_add 105 = .ok (.iadd, 1) := by decide +kernel
theorem dX6_add_106 : decode cX6_add 106 = .ok (.putfield 36, 3) := by decide +kernel
theorem dX6_add_109 : decode cX6_add 109 = .ok (.iload 7, 2) := by decide +kernel
theorem dX6_add_111 : decode cX6_add 111 = .ok (.ireturn, 1) := by decide +kernel
theorem dX6_originalOf_0 : decode cX6_originalOf 0 = .ok (.aload_n 0, 1) := by decide +kernel
theorem dX6_originalOf_1 : decode cX6_originalOf 1 = .ok (.getfield 9, 3) := by decide +kernel
theorem dX6_originalOf_4 : decode cX6_originalOf 4 = .ok (.iload_n 1, 1) := by decide +kernel
theorem dX6_originalOf_5 : decode cX6_originalOf 5 = .ok (.iconst 3, 1) := by decide +kernel
theorem dX6_originalOf_6 : decode cX6_originalOf 6 = .ok (.imul, 1) := by decide +kernel
theorem dX6_originalOf_7 : decode cX6_originalOf 7 = .ok (.iload_n 2, 1) := by decide +kernel
theorem dX6_originalOf_8 : decode cX6_originalOf 8 = .ok (.iadd, 1) := by decide +kernel
theorem dX6_originalOf_9 : decode cX6_originalOf 9 = .ok (.invokestatic 48, 3) := by decide +kernel
theorem dX6_originalOf_12 : decode cX6_originalOf 12 = .ok (.ireturn, 1) := by decide +kernel
theorem dX6_placeOf_0 : decode cX6_placeOf 0 = .ok (.iload_n 1, 1) := by decide +kernel
theorem dX6_placeOf_1 : decode cX6_placeOf 1 = .ok (.bipush 6, 2) := by decide +kernel
theorem dX6_placeOf_3 : decode cX6_placeOf 3 = .ok (.imul, 1) := by decide +kernel
theorem dX6_placeOf_4 : decode cX6_placeOf 4 = .ok (.iload_n 2, 1) := by decide +kernel
theorem dX6_placeOf_5 : decode cX6_placeOf 5 = .ok (.iadd, 1) := by decide +kernel
theorem dX6_placeOf_6 : decode cX6_placeOf 6 = .ok (.ireturn, 1) := by decide +kernel
theorem dX6_present_0 : decode cX6_present 0 = .ok (.aload_n 0, 1) := by decide +kernel
theorem dX6_present_1 : decode cX6_present 1 = .ok (.iload_n 1, 1) := by decide +kernel
theorem dX6_present_2 : decode cX6_present 2 = .ok (.iload_n 2, 1) := by decide +kernel
theorem dX6_present_3 : decode cX6_present 3 = .ok (.invokevirtual 52, 3) := by decide +kernel
theorem dX6_present_6 : decode cX6_present 6 = .ok (.istore_n 3, 1) := by decide +kernel
theorem dX6_present_7 : decode cX6_present 7 = .ok (.aload_n 0, 1) := by decide +kernel
theorem dX6_present_8 : decode cX6_present 8 = .ok (.getfield 27, 3) := by decide +kernel
theorem dX6_present_11 : decode cX6_present 11 = .ok (.iload_n 1, 1) := by decide +kernel
theorem dX6_present_12 : decode cX6_present 12 = .ok (.invokestatic 48, 3) := by decide +kernel
theorem dX6_present_15 : decode cX6_present 15 = .ok (.istore 4, 2) := by decide +kernel
theorem dX6_present_17 : decode cX6_present 17 = .ok (.iconst 0, 1) := by decide +kernel
theorem dX6_present_18 : decode cX6_present 18 = .ok (.istore 5, 2) := by decide +kernel
theorem dX6_present_20 : decode cX6_present 20 = .ok (.iload 5, 2) := by decide +kernel
theorem dX6_present_22 : decode cX6_present 22 = .ok (.iload 4, 2) := by decide +kernel
theorem dX6_present_24 : decode cX6_present 24 = .ok (.if_icmp .ge 43, 3) := by decide +kernel
theorem dX6_present_27 : decode cX6_present 27 = .ok (.aload_n 0, 1) := by decide +kernel
theorem dX6_present_28 : decode cX6_present 28 = .ok (.iload_n 1, 1) := by decide +kernel
theorem dX6_present_29 : decode cX6_present 29 = .ok (.iload 5, 2) := by decide +kernel
theorem dX6_present_31 : decode cX6_present 31 = .ok (.invokevirtual 56, 3) := by decide +kernel
theorem dX6_present_34 : decode cX6_present 34 = .ok (.istore 6, 2) := by decide +kernel
theorem dX6_present_36 : decode cX6_present 36 = .ok (.aload_n 0, 1) := by decide +kernel
theorem dX6_present_37 : decode cX6_present 37 = .ok (.getfield 30, 3) := by decide +kernel
theorem dX6_present_40 : decode cX6_present 40 = .ok (.iload 6, 2) := by decide +kernel
theorem dX6_present_42 : decode cX6_present 42 = .ok (.invokestatic 48, 3) := by decide +kernel
theorem dX6_present_45 : decode cX6_present 45 = .ok (.iload_n 2, 1) := by decide +kernel
theorem dX6_present_46 : decode cX6_present 46 = .ok (.if_icmp .ne 15, 3) := by decide +kernel
theorem dX6_present_49 : decode cX6_present 49 = .ok (.iload_n 3, 1) := by decide +kernel
theorem dX6_present_50 : decode cX6_present 50 = .ok (.aload_n 0, 1) := by decide +kernel
theorem dX6_present_51 : decode cX6_present 51 = .ok (.getfield 33, 3) := by decide +kernel
theorem dX6_present_54 : decode cX6_present 54 = .ok (.iload 6, 2) := by decide +kernel
theorem dX6_present_56 : decode cX6_present 56 = .ok (.invokestatic 48, 3) := by decide +kernel
theorem dX6_present_59 : decode cX6_present 59 = .ok (.iadd, 1) := by decide +kernel
theorem dX6_present_60 : decode cX6_present 60 = .ok (.istore_n 3, 1) := by decide +kernel
theorem dX6_present_61 : decode cX6_present 61 = .ok (.iinc 5 1, 3) := by decide +kernel
theorem dX6_present_64 : decode cX6_present 64 = .ok (.goto (-44), 3) := by decide +kernel
theorem dX6_present_67 : decode cX6_present 67 = .ok (.iload_n 3, 1) := by decide +kernel
theorem dX6_present_68 : decode cX6_present 68 = .ok (.ireturn, 1) := by decide +kernel
theorem dX6_allows_0 : decode cX6_allows 0 = .ok (.aload_n 0, 1) := by decide +kernel
theorem dX6_allows_1 : decode cX6_allows 1 = .ok (.iload_n 1, 1) := by decide +kernel
theorem dX6_allows_2 : decode cX6_allows 2 = .ok (.iload_n 2, 1) := by decide +kernel
theorem dX6_allows_3 : decode cX6_allows 3 = .ok (.invokevirtual 52, 3) := by decide +kernel
theorem dX6_allows_6 : decode cX6_allows 6 = .ok (.istore 4, 2) := by decide +kernel
theorem dX6_allows_8 : decode cX6_allows 8 = .ok (.aload_n 0, 1) := by decide +kernel
theorem dX6_allows_9 : decode cX6_allows 9 = .ok (.iload_n 1, 1) := by decide +kernel
theorem dX6_allows_10 : decode cX6_allows 10 = .ok (.iload_n 2, 1) := by decide +kernel
theorem dX6_allows_11 : decode cX6_allows 11 = .ok (.invokevirtual 59, 3) := by decide +kernel
theorem dX6_allows_14 : decode cX6_allows 14 = .ok (.iload_n 3, 1) := by decide +kernel
theorem dX6_allows_15 : decode cX6_allows 15 = .ok (.iadd, 1) := by decide +kernel
theorem dX6_allows_16 : decode cX6_allows 16 = .ok (.istore 5, 2) := by decide +kernel
theorem dX6_allows_18 : decode cX6_allows 18 = .ok (.iload 5, 2) := by decide +kernel
theorem dX6_allows_20 : decode cX6_allows 20 = .ok (.bipush 40, 2) := by decide +kernel
theorem dX6_allows_22 : decode cX6_allows 22 = .ok (.if_icmp .lt 33, 3) := by decide +kernel
theorem dX6_allows_25 : decode cX6_allows 25 = .ok (.iload 5, 2) := by decide +kernel
theorem dX6_allows_27 : decode cX6_allows 27 = .ok (.iload 4, 2) := by decide +kernel
theorem dX6_allows_29 : decode cX6_allows 29 = .ok (.bipush 20, 2) := by decide +kernel
theorem dX6_allows_31 : decode cX6_allows 31 = .ok (.isub, 1) := by decide +kernel
theorem dX6_allows_32 : decode cX6_allows 32 = .ok (.if_icmp .lt 23, 3) := by decide +kernel
theorem dX6_allows_35 : decode cX6_allows 35 = .ok (.iload 5, 2) := by decide +kernel
theorem dX6_allows_37 : decode cX6_allows 37 = .ok (.iload 4, 2) := by decide +kernel
theorem dX6_allows_39 : decode cX6_allows 39 = .ok (.aload_n 0, 1) := by decide +kernel
theorem dX6_allows_40 : decode cX6_allows 40 = .ok (.getfield 15, 3) := by decide +kernel
theorem dX6_allows_43 : decode cX6_allows 43 = .ok (.iload_n 1, 1) := by decide +kernel
theorem dX6_allows_44 : decode cX6_allows 44 = .ok (.invokestatic 48, 3) := by decide +kernel
theorem dX6_allows_47 : decode cX6_allows 47 = .ok (.iadd, 1) := by decide +kernel
theorem dX6_allows_48 : decode cX6_allows 48 = .ok (.if_icmp .gt 7, 3) := by decide +kernel
theorem dX6_allows_51 : decode cX6_allows 51 = .ok (.iconst 1, 1) := by decide +kernel
theorem dX6_allows_52 : decode cX6_allows 52 = .ok (.goto 4, 3) := by decide +kernel
theorem dX6_allows_55 : decode cX6_allows 55 = .ok (.iconst 0, 1) := by decide +kernel
theorem dX6_allows_56 : decode cX6_allows 56 = .ok (.ireturn, 1) := by decide +kernel
theorem dX6_roomForAlterations_0 : decode cX6_roomForAlterations 0 = .ok (.bipush 6, 2) := by decide +kernel
theorem dX6_roomForAlterations_2 : decode cX6_roomForAlterations 2 = .ok (.aload_n 0, 1) := by decide +kernel
theorem dX6_roomForAlterations_3 : decode cX6_roomForAlterations 3 = .ok (.getfield 27, 3) := by decide +kernel
theorem dX6_roomForAlterations_6 : decode cX6_roomForAlterations 6 = .ok (.iload_n 1, 1) := by decide +kernel
theorem dX6_roomForAlterations_7 : decode cX6_roomForAlterations 7 = .ok (.invokestatic 48, 3) := by decide +kernel
theorem dX6_roomForAlterations_10 : decode cX6_roomForAlterations 10 = .ok (.isub, 1) := by decide +kernel
theorem dX6_roomForAlterations_11 : decode cX6_roomForAlterations 11 = .ok (.ireturn, 1) := by decide +kernel
theorem dX6_addAlteration_0 : decode cX6_addAlteration 0 = .ok (.aload_n 0, 1) := by decide +kernel
theorem dX6_addAlteration_1 : decode cX6_addAlteration 1 = .ok (.getfield 27, 3) := by decide +kernel
theorem dX6_addAlteration_4 : decode cX6_addAlteration 4 = .ok (.iload_n 1, 1) := by decide +kernel
theorem dX6_addAlteration_5 : decode cX6_addAlteration 5 = .ok (.invokestatic 48, 3) := by decide +kernel
theorem dX6_addAlteration_8 : decode cX6_addAlteration 8 = .ok (.istore 4, 2) := by decide +kernel
theorem dX6_addAlteration_10 : decode cX6_addAlteration 10 = .ok (.aload_n 0, 1) := by decide +kernel
theorem dX6_addAlteration_11 : decode cX6_addAlteration 11 = .ok (.getfield 30, 3) := by decide +kernel
theorem dX6_addAlteration_14 : decode cX6_addAlteration 14 = .ok (.aload_n 0, 1) := by decide +kernel
theorem dX6_addAlteration_15 : decode cX6_addAlteration 15 = .ok (.iload_n 1, 1) := by decide +kernel
theorem dX6_addAlteration_16 : decode cX6_addAlteration 16 = .ok (.iload 4, 2) := by decide +kernel
theorem dX6_addAlteration_18 : decode cX6_addAlteration 18 = .ok (.invokevirtual 56, 3) := by decide +kernel
theorem dX6_addAlteration_21 : decode cX6_addAlteration 21 = .ok (.iload_n 2, 1) := by decide +kernel
theorem dX6_addAlteration_22 : decode cX6_addAlteration 22 = .ok (.invokestatic 44, 3) := by decide +kernel
theorem dX6_addAlteration_25 : decode cX6_addAlteration 25 = .ok (.aload_n 0, 1) := by decide +kernel
theorem dX6_addAlteration_26 : decode cX6_addAlteration 26 = .ok (.getfield 33, 3) := by decide +kernel
theorem dX6_addAlteration_29 : decode cX6_addAlteration 29 = .ok (.aload_n 0, 1) := by decide +kernel
theorem dX6_addAlteration_30 : decode cX6_addAlteration 30 = .ok (.iload_n 1, 1) := by decide +kernel
theorem dX6_addAlteration_31 : decode cX6_addAlteration 31 = .ok (.iload 4, 2) := by decide +kernel
theorem dX6_addAlteration_33 : decode cX6_addAlteration 33 = .ok (.invokevirtual 56, 3) := by decide +kernel
theorem dX6_addAlteration_36 : decode cX6_addAlteration 36 = .ok (.iload_n 3, 1) := by decide +kernel
theorem dX6_addAlteration_37 : decode cX6_addAlteration 37 = .ok (.invokestatic 44, 3) := by decide +kernel
theorem dX6_addAlteration_40 : decode cX6_addAlteration 40 = .ok (.aload_n 0, 1) := by decide +kernel
theorem dX6_addAlteration_41 : decode cX6_addAlteration 41 = .ok (.getfield 27, 3) := by decide +kernel
theorem dX6_addAlteration_44 : decode cX6_addAlteration 44 = .ok (.iload_n 1, 1) := by decide +kernel
theorem dX6_addAlteration_45 : decode cX6_addAlteration 45 = .ok (.iload 4, 2) := by decide +kernel
theorem dX6_addAlteration_47 : decode cX6_addAlteration 47 = .ok (.iconst 1, 1) := by decide +kernel
theorem dX6_addAlteration_48 : decode cX6_addAlteration 48 = .ok (.iadd, 1) := by decide +kernel
theorem dX6_addAlteration_49 : decode cX6_addAlteration 49 = .ok (.invokestatic 44, 3) := by decide +kernel
theorem dX6_addAlteration_52 : decode cX6_addAlteration 52 = .ok (.return_, 1) := by decide +kernel
theorem dX6_removeAlteration_0 : decode cX6_removeAlteration 0 = .ok (.aload_n 0, 1) := by decide +kernel
theorem dX6_removeAlteration_1 : decode cX6_removeAlteration 1 = .ok (.getfield 27, 3) := by decide +kernel
theorem dX6_removeAlteration_4 : decode cX6_removeAlteration 4 = .ok (.iload_n 1, 1) := by decide +kernel
theorem dX6_removeAlteration_5 : decode cX6_removeAlteration 5 = .ok (.invokestatic 48, 3) := by decide +kernel
theorem dX6_removeAlteration_8 : decode cX6_removeAlteration 8 = .ok (.iconst 1, 1) := by decide +kernel
theorem dX6_removeAlteration_9 : decode cX6_removeAlteration 9 = .ok (.isub, 1) := by decide +kernel
theorem dX6_removeAlteration_10 : decode cX6_removeAlteration 10 = .ok (.istore_n 2, 1) := by decide +kernel
theorem dX6_removeAlteration_11 : decode cX6_removeAlteration 11 = .ok (.aload_n 0, 1) := by decide +kernel
theorem dX6_removeAlteration_12 : decode cX6_removeAlteration 12 = .ok (.getfield 27, 3) := by decide +kernel
theorem dX6_removeAlteration_15 : decode cX6_removeAlteration 15 = .ok (.iload_n 1, 1) := by decide +kernel
theorem dX6_removeAlteration_16 : decode cX6_removeAlteration 16 = .ok (.iload_n 2, 1) := by decide +kernel
theorem dX6_removeAlteration_17 : decode cX6_removeAlteration 17 = .ok (.invokestatic 44, 3) := by decide +kernel
theorem dX6_removeAlteration_20 : decode cX6_removeAlteration 20 = .ok (.aload_n 0, 1) := by decide +kernel
theorem dX6_removeAlteration_21 : decode cX6_removeAlteration 21 = .ok (.getfield 33, 3) := by decide +kernel
theorem dX6_removeAlteration_24 : decode cX6_removeAlteration 24 = .ok (.aload_n 0, 1) := by decide +kernel
theorem dX6_removeAlteration_25 : decode cX6_removeAlteration 25 = .ok (.iload_n 1, 1) := by decide +kernel
theorem dX6_removeAlteration_26 : decode cX6_removeAlteration 26 = .ok (.iload_n 2, 1) := by decide +kernel
theorem dX6_removeAlteration_27 : decode cX6_removeAlteration 27 = .ok (.invokevirtual 56, 3) := by decide +kernel
theorem dX6_removeAlteration_30 : decode cX6_removeAlteration 30 = .ok (.invokestatic 48, 3) := by decide +kernel
theorem dX6_removeAlteration_33 : decode cX6_removeAlteration 33 = .ok (.ireturn, 1) := by decide +kernel
theorem dX6_canBeWashed_0 : decode cX6_canBeWashed 0 = .ok (.getstatic 62, 3) := by decide +kernel
theorem dX6_canBeWashed_3 : decode cX6_canBeWashed 3 = .ok (.aload_n 0, 1) := by decide +kernel
theorem dX6_canBeWashed_4 : decode cX6_canBeWashed 4 = .ok (.getfield 18, 3) := by decide +kernel
theorem dX6_canBeWashed_7 : decode cX6_canBeWashed 7 = .ok (.iload_n 1, 1) := by decide +kernel
theorem dX6_canBeWashed_8 : decode cX6_canBeWashed 8 = .ok (.invokestatic 48, 3) := by decide +kernel
theorem dX6_canBeWashed_11 : decode cX6_canBeWashed 11 = .ok (.invokestatic 48, 3) := by decide +kernel
theorem dX6_canBeWashed_14 : decode cX6_canBeWashed 14 = .ok (.iload_n 2, 1) := by decide +kernel
theorem dX6_canBeWashed_15 : decode cX6_canBeWashed 15 = .ok (.invokestatic 65, 3) := by decide +kernel
theorem dX6_canBeWashed_18 : decode cX6_canBeWashed 18 = .ok (.ireturn, 1) := by decide +kernel
theorem dX6_soil_0 : decode cX6_soil 0 = .ok (.aload_n 0, 1) := by decide +kernel
theorem dX6_soil_1 : decode cX6_soil 1 = .ok (.getfield 24, 3) := by decide +kernel
theorem dX6_soil_4 : decode cX6_soil 4 = .ok (.iload_n 1, 1) := by decide +kernel
theorem dX6_soil_5 : decode cX6_soil 5 = .ok (.aload_n 0, 1) := by decide +kernel
theorem dX6_soil_6 : decode cX6_soil 6 = .ok (.getfield 24, 3) := by decide +kernel
theorem dX6_soil_9 : decode cX6_soil 9 = .ok (.iload_n 1, 1) := by decide +kernel
theorem dX6_soil_10 : decode cX6_soil 10 = .ok (.invokestatic 48, 3) := by decide +kernel
theorem dX6_soil_13 : decode cX6_soil 13 = .ok (.iload_n 2, 1) := by decide +kernel
theorem dX6_soil_14 : decode cX6_soil 14 = .ok (.iadd, 1) := by decide +kernel
theorem dX6_soil_15 : decode cX6_soil 15 = .ok (.bipush 9, 2) := by decide +kernel
theorem dX6_soil_17 : decode cX6_soil 17 = .ok (.invokestatic 69, 3) := by decide +kernel
theorem dX6_soil_20 : decode cX6_soil 20 = .ok (.invokestatic 44, 3) := by decide +kernel
theorem dX6_soil_23 : decode cX6_soil 23 = .ok (.return_, 1) := by decide +kernel
theorem dX6_clean_0 : decode cX6_clean 0 = .ok (.iconst 0, 1) := by decide +kernel
theorem dX6_clean_1 : decode cX6_clean 1 = .ok (.istore_n 3, 1) := by decide +kernel
theorem dX6_clean_2 : decode cX6_clean 2 = .ok (.iconst 0, 1) := by decide +kernel
theorem dX6_clean_3 : decode cX6_clean 3 = .ok (.istore 4, 2) := by decide +kernel
theorem dX6_clean_5 : decode cX6_clean 5 = .ok (.iload 4, 2) := by decide +kernel
theorem dX6_clean_7 : decode cX6_clean 7 = .ok (.aload_n 0, 1) := by decide +kernel
theorem dX6_clean_8 : decode cX6_clean 8 = .ok (.getfield 36, 3) := by decide +kernel
theorem dX6_clean_11 : decode cX6_clean 11 = .ok (.if_icmp .ge 59, 3) := by decide +kernel
theorem dX6_clean_14 : decode cX6_clean 14 = .ok (.iload_n 1, 1) := by decide +kernel
theorem dX6_clean_15 : decode cX6_clean 15 = .ok (.iload 4, 2) := by decide +kernel
theorem dX6_clean_17 : decode cX6_clean 17 = .ok (.invokestatic 65, 3) := by decide +kernel
theorem dX6_clean_20 : decode cX6_clean 20 = .ok (.ifCond .eq 44, 3) := by decide +kernel
theorem dX6_clean_23 : decode cX6_clean 23 = .ok (.aload_n 0, 1) := by decide +kernel
theorem dX6_clean_24 : decode cX6_clean 24 = .ok (.getfield 24, 3) := by decide +kernel
theorem dX6_clean_27 : decode cX6_clean 27 = .ok (.iload 4, 2) := by decide +kernel
theorem dX6_clean_29 : decode cX6_clean 29 = .ok (.invokestatic 48, 3) := by decide +kernel
theorem dX6_clean_32 : decode cX6_clean 32 = .ok (.iload_n 2, 1) := by decide +kernel
theorem dX6_clean_33 : decode cX6_clean 33 = .ok (.invokestatic 69, 3) := by decide +kernel
theorem dX6_clean_36 : decode cX6_clean 36 = .ok (.istore 5, 2) := by decide +kernel
theorem dX6_clean_38 : decode cX6_clean 38 = .ok (.aload_n 0, 1) := by decide +kernel
theorem dX6_clean_39 : decode cX6_clean 39 = .ok (.getfield 24, 3) := by decide +kernel
theorem dX6_clean_42 : decode cX6_clean 42 = .ok (.iload 4, 2) := by decide +kernel
theorem dX6_clean_44 : decode cX6_clean 44 = .ok (.aload_n 0, 1) := by decide +kernel
theorem dX6_clean_45 : decode cX6_clean 45 = .ok (.getfield 24, 3) := by decide +kernel
theorem dX6_clean_48 : decode cX6_clean 48 = .ok (.iload 4, 2) := by decide +kernel
theorem dX6_clean_50 : decode cX6_clean 50 = .ok (.invokestatic 48, 3) := by decide +kernel
theorem dX6_clean_53 : decode cX6_clean 53 = .ok (.iload 5, 2) := by decide +kernel
theorem dX6_clean_55 : decode cX6_clean 55 = .ok (.isub, 1) := by decide +kernel
theorem dX6_clean_56 : decode cX6_clean 56 = .ok (.invokestatic 44, 3) := by decide +kernel
theorem dX6_clean_59 : decode cX6_clean 59 = .ok (.iload_n 3, 1) := by decide +kernel
theorem dX6_clean_60 : decode cX6_clean 60 = .ok (.iload 5, 2) := by decide +kernel
theorem dX6_clean_62 : decode cX6_clean 62 = .ok (.iadd, 1) := by decide +kernel
theorem dX6_clean_63 : decode cX6_clean 63 = .ok (.istore_n 3, 1) := by decide +kernel
theorem dX6_clean_64 : decode cX6_clean 64 = .ok (.iinc 4 1, 3) := by decide +kernel
theorem dX6_clean_67 : decode cX6_clean 67 = .ok (.goto (-62), 3) := by decide +kernel
theorem dX6_clean_70 : decode cX6_clean 70 = .ok (.iload_n 3, 1) := by decide +kernel
theorem dX6_clean_71 : decode cX6_clean 71 = .ok (.ireturn, 1) := by decide +kernel
theorem dX7_init_0 : decode cX7_init 0 = .ok (.aload_n 0, 1) := by decide +kernel
theorem dX7_init_1 : decode cX7_init 1 = .ok (.invokespecial 1, 3) := by decide +kernel
theorem dX7_init_4 : decode cX7_init 4 = .ok (.aload_n 0, 1) := by decide +kernel
theorem dX7_init_5 : decode cX7_init 5 = .ok (.new 7, 3) := by decide +kernel
theorem dX7_init_8 : decode cX7_init 8 = .ok (.dup, 1) := by decide +kernel
theorem dX7_init_9 : decode cX7_init 9 = .ok (.invokespecial 9, 3) := by decide +kernel
theorem dX7_init_12 : decode cX7_init 12 = .ok (.putfield 10, 3) := by decide +kernel
theorem dX7_init_15 : decode cX7_init 15 = .ok (.aload_n 0, 1) := by decide +kernel
theorem dX7_init_16 : decode cX7_init 16 = .ok (.new 16, 3) := by decide +kernel
theorem dX7_init_19 : decode cX7_init 19 = .ok (.dup, 1) := by decide +kernel
theorem dX7_init_20 : decode cX7_init 20 = .ok (.invokespecial 18, 3) := by decide +kernel
theorem dX7_init_23 : decode cX7_init 23 = .ok (.putfield 19, 3) := by decide +kernel
theorem dX7_init_26 : decode cX7_init 26 = .ok (.aload_n 0, 1) := by decide +kernel
theorem dX7_init_27 : decode cX7_init 27 = .ok (.new 23, 3) := by decide +kernel
theorem dX7_init_30 : decode cX7_init 30 = .ok (.dup, 1) := by decide +kernel
theorem dX7_init_31 : decode cX7_init 31 = .ok (.invokespecial 25, 3) := by decide +kernel
theorem dX7_init_34 : decode cX7_init 34 = .ok (.putfield 26, 3) := by decide +kernel
theorem dX7_init_37 : decode cX7_init 37 = .ok (.aload_n 0, 1) := by decide +kernel
theorem dX7_init_38 : decode cX7_init 38 = .ok (.new 30, 3) := by decide +kernel
theorem dX7_init_41 : decode cX7_init 41 = .ok (.dup, 1) := by decide +kernel
theorem dX7_init_42 : decode cX7_init 42 = .ok (.aload_n 0, 1) := by decide +kernel
theorem dX7_init_43 : decode cX7_init 43 = .ok (.getfield 26, 3) := by decide +kernel
theorem dX7_init_46 : decode cX7_init 46 = .ok (.invokespecial 32, 3) := by decide +kernel
theorem dX7_init_49 : decode cX7_init 49 = .ok (.putfield 35, 3) := by decide +kernel
theorem dX7_init_52 : decode cX7_init 52 = .ok (.return_, 1) := by decide +kernel
theorem dX7_addCostume_0 : decode cX7_addCostume 0 = .ok (.iload_n 1, 1) := by decide +kernel
theorem dX7_addCostume_1 : decode cX7_addCostume 1 = .ok (.iload_n 2, 1) := by decide +kernel
theorem dX7_addCostume_2 : decode cX7_addCostume 2 = .ok (.iload_n 3, 1) := by decide +kernel
theorem dX7_addCostume_3 : decode cX7_addCostume 3 = .ok (.invokestatic 39, 3) := by decide +kernel
theorem dX7_addCostume_6 : decode cX7_addCostume 6 = .ok (.ifCond .eq 24, 3) := by decide +kernel
theorem dX7_addCostume_9 : decode cX7_addCostume 9 = .ok (.iload 4, 2) := by decide +kernel
theorem dX7_addCostume_11 : decode cX7_addCostume 11 = .ok (.iconst 0, 1) := by decide +kernel
theorem dX7_addCostume_12 : decode cX7_addCostume 12 = .ok (.bipush 8, 2) := by decide +kernel
theorem dX7_addCostume_14 : decode cX7_addCostume 14 = .ok (.invokestatic 43, 3) := by decide +kernel
theorem dX7_addCostume_17 : decode cX7_addCostume 17 = .ok (.ifCond .eq 13, 3) := by decide +kernel
theorem dX7_addCostume_20 : decode cX7_addCostume 20 = .ok (.iload 5, 2) := by decide +kernel
theorem dX7_addCostume_22 : decode cX7_addCostume 22 = .ok (.iconst 0, 1) := by decide +kernel
theorem dX7_addCostume_23 : decode cX7_addCostume 23 = .ok (.iconst 3, 1) := by decide +kernel
theorem dX7_addCostume_24 : decode cX7_addCostume 24 = .ok (.invokestatic 43, 3) := by decide +kernel
theorem dX7_addCostume_27 : decode cX7_addCostume 27 = .ok (.ifCond .ne 7, 3) := by decide +kernel
theorem dX7_addCostume_30 : decode cX7_addCostume 30 = .ok (.sipush (-2001), 3) := by decide +kernel
theorem dX7_addCostume_33 : decode cX7_addCostume 33 = .ok (.ireturn, 1) := by decide +kernel
theorem dX7_addCostume_34 : decode cX7_addCostume 34 = .ok (.aload_n 0, 1) := by decide +kernel
theorem dX7_addCostume_35 : decode cX7_addCostume 35 = .ok (.getfield 10, 3) := by decide +kernel
theorem dX7_addCostume_38 : decode cX7_addCostume 38 = .ok (.getfield 46, 3) := by decide +kernel
theorem dX7_addCostume_41 : decode cX7_addCostume 41 = .ok (.getfield 50, 3) := by decide +kernel
theorem dX7_addCostume_44 : decode cX7_addCostume 44 = .ok (.bipush 16, 2) := by decide +kernel
theorem dX7_addCostume_46 : decode cX7_addCostume 46 = .ok (.if_icmp .lt 7, 3) := by decide +kernel
theorem dX7_addCostume_49 : decode cX7_addCostume 49 = .ok (.sipush (-2003), 3) := by decide +kernel
theorem dX7_addCostume_52 : decode cX7_addCostume 52 = .ok (.ireturn, 1) := by decide +kernel
theorem dX7_addCostume_53 : decode cX7_addCostume 53 = .ok (.aload_n 0, 1) := by decide +kernel
theorem dX7_addCostume_54 : decode cX7_addCostume 54 = .ok (.getfield 19, 3) := by decide +kernel
theorem dX7_addCostume_57 : decode cX7_addCostume 57 = .ok (.aload_n 0, 1) := by decide +kernel
theorem dX7_addCostume_58 : decode cX7_addCostume 58 = .ok (.getfield 10, 3) := by decide +kernel
theorem dX7_addCostume_61 : decode cX7_addCostume 61 = .ok (.invokevirtual 56, 3) := by decide +kernel
theorem dX7_addCostume_64 : decode cX7_addCostume 64 = .ok (.aload_n 0, 1) := by decide +kernel
theorem dX7_addCostume_65 : decode cX7_addCostume 65 = .ok (.getfield 10, 3) := by decide +kernel
theorem dX7_addCostume_68 : decode cX7_addCostume 68 = .ok (.getfield 46, 3) := by decide +kernel
theorem dX7_addCostume_71 : decode cX7_addCostume 71 = .ok (.iload_n 1, 1) := by decide +kernel
theorem dX7_addCostume_72 : decode cX7_addCostume 72 = .ok (.iload_n 2, 1) := by decide +kernel
theorem dX7_addCostume_73 : decode cX7_addCostume 73 = .ok (.iload_n 3, 1) := by decide +kernel
theorem dX7_addCostume_74 : decode cX7_addCostume 74 = .ok (.iload 4, 2) := by decide +kernel
theorem dX7_addCostume_76 : decode cX7_addCostume 76 = .ok (.iload 5, 2) := by decide +kernel
theorem dX7_addCostume_78 : decode cX7_addCostume 78 = .ok (.iconst 0, 1) := by decide +kernel
theorem dX7_addCostume_79 : decode cX7_addCostume 79 = .ok (.invokevirtual 60, 3) := by decide +kernel
theorem dX7_addCostume_82 : decode cX7_addCostume 82 = .ok (.ireturn, 1) := by decide +kernel
theorem dX7_setColor_0 : decode cX7_setColor 0 = .ok (.aload_n 0, 1) := by decide +kernel
theorem dX7_setColor_1 : decode cX7_setColor 1 = .ok (.getfield 10, 3) := by decide +kernel
theorem dX7_setColor_4 : decode cX7_setColor 4 = .ok (.getfield 46, 3) := by decide +kernel
theorem dX7_setColor_7 : decode cX7_setColor 7 = .ok (.iload_n 1, 1) := by decide +kernel
theorem dX7_setColor_8 : decode cX7_setColor 8 = .ok (.invokevirtual 64, 3) := by decide +kernel
theorem dX7_setColor_11 : decode cX7_setColor 11 = .ok (.ifCond .eq 12, 3) := by decide +kernel
theorem dX7_setColor_14 : decode cX7_setColor 14 = .ok (.iload_n 2, 1) := by decide +kernel
theorem dX7_setColor_15 : decode cX7_setColor 15 = .ok (.iconst 0, 1) := by decide +kernel
theorem dX7_setColor_16 : decode cX7_setColor 16 = .ok (.iconst 1, 1) := by decide +kernel
theorem dX7_setColor_17 : decode cX7_setColor 17 = .ok (.invokestatic 43, 3) := by decide +kernel
theorem dX7_setColor_20 : decode cX7_setColor 20 = .ok (.ifCond .ne 7, 3) := by decide +kernel
theorem dX7_setColor_23 : decode cX7_setColor 23 = .ok (.sipush (-2001), 3) := by decide +kernel
theorem dX7_setColor_26 : decode cX7_setColor 26 = .ok (.ireturn, 1) := by decide +kernel
theorem dX7_setColor_27 : decode cX7_setColor 27 = .ok (.aload_n 0, 1) := by decide +kernel
theorem dX7_setColor_28 : decode cX7_setColor 28 = .ok (.getfield 19, 3) := by decide +kernel
theorem dX7_setColor_31 : decode cX7_setColor 31 = .ok (.aload_n 0, 1) := by decide +kernel
theorem dX7_setColor_32 : decode cX7_setColor 32 = .ok (.getfield 10, 3) := by decide +kernel
theorem dX7_setColor_35 : decode cX7_setColor 35 = .ok (.invokevirtual 56, 3) := by decide +kernel
theorem dX7_setColor_38 : decode cX7_setColor 38 = .ok (.aload_n 0, 1) := by decide +kernel
theorem dX7_setColor_39 : decode cX7_setColor 39 = .ok (.getfield 10, 3) := by decide +kernel
theorem dX7_setColor_42 : decode cX7_setColor 42 = .ok (.getfield 46, 3) := by decide +kernel
theorem dX7_setColor_45 : decode cX7_setColor 45 = .ok (.getfield 68, 3) := by decide +kernel
theorem dX7_setColor_48 : decode cX7_setColor 48 = .ok (.iload_n 1, 1) := by decide +kernel
theorem dX7_setColor_49 : decode cX7_setColor 49 = .ok (.invokestatic 72, 3) := by decide +kernel
theorem dX7_setColor_52 : decode cX7_setColor 52 = .ok (.istore_n 3, 1) := by decide +kernel
theorem dX7_setColor_53 : decode cX7_setColor 53 = .ok (.aload_n 0, 1) := by decide +kernel
theorem dX7_setColor_54 : decode cX7_setColor 54 = .ok (.getfield 10, 3) := by decide +kernel
theorem dX7_setColor_57 : decode cX7_setColor 57 = .ok (.getfield 46, 3) := by decide +kernel
theorem dX7_setColor_60 : decode cX7_setColor 60 = .ok (.getfield 68, 3) := by decide +kernel
theorem dX7_setColor_63 : decode cX7_setColor 63 = .ok (.iload_n 1, 1) := by decide +kernel
theorem dX7_setColor_64 : decode cX7_setColor 64 = .ok (.iload_n 2, 1) := by decide +kernel
theorem dX7_setColor_65 : decode cX7_setColor 65 = .ok (.invokestatic 76, 3) := by decide +kernel
theorem dX7_setColor_68 : decode cX7_setColor 68 = .ok (.iload_n 3, 1) := by decide +kernel
theorem dX7_setColor_69 : decode cX7_setColor 69 = .ok (.ireturn, 1) := by decide +kernel
theorem dX7_addActor_0 : decode cX7_addActor 0 = .ok (.iload_n 1, 1) := by decide +kernel
theorem dX7_addActor_1 : decode cX7_addActor 1 = .ok (.iload_n 2, 1) := by decide +kernel
theorem dX7_addActor_2 : decode cX7_addActor 2 = .ok (.iload_n 3, 1) := by decide +kernel
theorem dX7_addActor_3 : decode cX7_addActor 3 = .ok (.invokestatic 39, 3) := by decide +kernel
theorem dX7_addActor_6 : decode cX7_addActor 6 = .ok (.ifCond .ne 7, 3) := by decide +kernel
theorem dX7_addActor_9 : decode cX7_addActor 9 = .ok (.sipush (-2001), 3) := by decide +kernel
theorem dX7_addActor_12 : decode cX7_addActor 12 = .ok (.ireturn, 1) := by decide +kernel
theorem dX7_addActor_13 : decode cX7_addActor 13 = .ok (.aload_n 0, 1) := by decide +kernel
theorem dX7_addActor_14 : decode cX7_addActor 14 = .ok (.getfield 10, 3) := by decide +kernel
theorem dX7_addActor_17 : decode cX7_addActor 17 = .ok (.getfield 80, 3) := by decide +kernel
theorem dX7_addActor_20 : decode cX7_addActor 20 = .ok (.getfield 84, 3) := by decide +kernel
theorem dX7_addActor_23 : decode cX7_addActor 23 = .ok (.bipush 8, 2) := by decide +kernel
theorem dX7_addActor_25 : decode cX7_addActor 25 = .ok (.if_icmp .lt 7, 3) := by decide +kernel
theorem dX7_addActor_28 : decode cX7_addActor 28 = .ok (.sipush (-2003), 3) := by decide +kernel
theorem dX7_addActor_31 : decode cX7_addActor 31 = .ok (.ireturn, 1) := by decide +kernel
theorem dX7_addActor_32 : decode cX7_addActor 32 = .ok (.aload_n 0, 1) := by decide +kernel
theorem dX7_addActor_33 : decode cX7_addActor 33 = .ok (.getfield 19, 3) := by decide +kernel
theorem dX7_addActor_36 : decode cX7_addActor 36 = .ok (.aload_n 0, 1) := by decide +kernel
theorem dX7_addActor_37 : decode cX7_addActor 37 = .ok (.getfield 10, 3) := by decide +kernel
theorem dX7_addActor_40 : decode cX7_addActor 40 = .ok (.invokevirtual 56, 3) := by decide +kernel
theorem dX7_addActor_43 : decode cX7_addActor 43 = .ok (.aload_n 0, 1) := by decide +kernel
theorem dX7_addActor_44 : decode cX7_addActor 44 = .ok (.getfield 10, 3) := by decide +kernel
theorem dX7_addActor_47 : decode cX7_addActor 47 = .ok (.getfield 80, 3) := by decide +kernel
theorem dX7_addActor_50 : decode cX7_addActor 50 = .ok (.iload_n 1, 1) := by decide +kernel
theorem dX7_addActor_51 : decode cX7_addActor 51 = .ok (.iload_n 2, 1) := by decide +kernel
theorem dX7_addActor_52 : decode cX7_addActor 52 = .ok (.iload_n 3, 1) := by decide +kernel
theorem dX7_addActor_53 : decode cX7_addActor 53 = .ok (.invokevirtual 87, 3) := by decide +kernel
theorem dX7_addActor_56 : decode cX7_addActor 56 = .ok (.ireturn, 1) := by decide +kernel
theorem dX7_set_0 : decode cX7_set 0 = .ok (.iload_n 1, 1) := by decide +kernel
theorem dX7_set_1 : decode cX7_set 1 = .ok (.iconst 0, 1) := by decide +kernel
theorem dX7_set_2 : decode cX7_set 2 = .ok (.iconst 3, 1) := by decide +kernel
theorem dX7_set_3 : decode cX7_set 3 = .ok (.invokestatic 43, 3) := by decide +kernel
theorem dX7_set_6 : decode cX7_set 6 = .ok (.ifCond .eq 11, 3) := by decide +kernel
theorem dX7_set_9 : decode cX7_set 9 = .ok (.iload_n 1, 1) := by decide +kernel
theorem dX7_set_10 : decode cX7_set 10 = .ok (.iload_n 2, 1) := by decide +kernel
theorem dX7_set_11 : decode cX7_set 11 = .ok (.invokestatic 90, 3) := by decide +kernel
theorem dX7_set_14 : decode cX7_set 14 = .ok (.ifCond .ne 7, 3) := by decide +kernel
theorem dX7_set_17 : decode cX7_set 17 = .ok (.sipush (-2001), 3) := by decide +kernel
theorem dX7_set_20 : decode cX7_set 20 = .ok (.ireturn, 1) := by decide +kernel
theorem dX7_set_21 : decode cX7_set 21 = .ok (.aload_n 0, 1) := by decide +kernel
theorem dX7_set_22 : decode cX7_set 22 = .ok (.getfield 19, 3) := by decide +kernel
theorem dX7_set_25 : decode cX7_set 25 = .ok (.aload_n 0, 1) := by decide +kernel
theorem dX7_set_26 : decode cX7_set 26 = .ok (.getfield 10, 3) := by decide +kernel
theorem dX7_set_29 : decode cX7_set 29 = .ok (.invokevirtual 56, 3) := by decide +kernel
theorem dX7_set_32 : decode cX7_set 32 = .ok (.aload_n 0, 1) := by decide +kernel
theorem dX7_set_33 : decode cX7_set 33 = .ok (.getfield 10, 3) := by decide +kernel
theorem dX7_set_36 : decode cX7_set 36 = .ok (.getfield 94, 3) := by decide +kernel
theorem dX7_set_39 : decode cX7_set 39 = .ok (.iload_n 1, 1) := by decide +kernel
theorem dX7_set_40 : decode cX7_set 40 = .ok (.invokestatic 72, 3) := by decide +kernel
theorem dX7_set_43 : decode cX7_set 43 = .ok (.istore_n 3, 1) := by decide +kernel
theorem dX7_set_44 : decode cX7_set 44 = .ok (.aload_n 0, 1) := by decide +kernel
theorem dX7_set_45 : decode cX7_set 45 = .ok (.getfield 10, 3) := by decide +kernel
theorem dX7_set_48 : decode cX7_set 48 = .ok (.getfield 94, 3) := by decide +kernel
theorem dX7_set_51 : decode cX7_set 51 = .ok (.iload_n 1, 1) := by decide +kernel
theorem dX7_set_52 : decode cX7_set 52 = .ok (.iload_n 2, 1) := by decide +kernel
theorem dX7_set_53 : decode cX7_set 53 = .ok (.invokestatic 76, 3) := by decide +kernel
theorem dX7_set_56 : decode cX7_set 56 = .ok (.iload_n 3, 1) := by decide +kernel
theorem dX7_set_57 : decode cX7_set 57 = .ok (.ireturn, 1) := by decide +kernel
theorem dX7_alter_0 : decode cX7_alter 0 = .ok (.aload_n 0, 1) := by decide +kernel
theorem dX7_alter_1 : decode cX7_alter 1 = .ok (.getfield 10, 3) := by decide +kernel
theorem dX7_alter_4 : decode cX7_alter 4 = .ok (.getfield 46, 3) := by decide +kernel
theorem dX7_alter_7 : decode cX7_alter 7 = .ok (.iload_n 1, 1) := by decide +kernel
theorem dX7_alter_8 : decode cX7_alter 8 = .ok (.invokevirtual 64, 3) := by decide +kernel
theorem dX7_alter_11 : decode cX7_alter 11 = .ok (.ifCond .eq 27, 3) := by decide +kernel
theorem dX7_alter_14 : decode cX7_alter 14 = .ok (.iload_n 2, 1) := by decide +kernel
theorem dX7_alter_15 : decode cX7_alter 15 = .ok (.iconst 0, 1) := by decide +kernel
theorem dX7_alter_16 : decode cX7_alter 16 = .ok (.iconst 2, 1) := by decide +kernel
theorem dX7_alter_17 : decode cX7_alter 17 = .ok (.invokestatic 43, 3) := by decide +kernel
theorem dX7_alter_20 : decode cX7_alter 20 = .ok (.ifCond .eq 18, 3) := by decide +kernel
theorem dX7_alter_23 : decode cX7_alter 23 = .ok (.iload_n 3, 1) := by decide +kernel
theorem dX7_alter_24 : decode cX7_alter 24 = .ok (.bipush (-10), 2) := by decide +kernel
theorem dX7_alter_26 : decode cX7_alter 26 = .ok (.bipush 10, 2) := by decide +kernel
theorem dX7_alter_28 : decode cX7_alter 28 = .ok (.invokestatic 43, 3) := by decide +kernel
theorem dX7_alter_31 : decode cX7_alter 31 = .ok (.ifCond .eq 7, 3) := by decide +kernel
theorem dX7_alter_34 : decode cX7_alter 34 = .ok (.iload_n 3, 1) := by decide +kernel
theorem dX7_alter_35 : decode cX7_alter 35 = .ok (.ifCond .ne 7, 3) := by decide +kernel
theorem dX7_alter_38 : decode cX7_alter 38 = .ok (.sipush (-2001), 3) := by decide +kernel
theorem dX7_alter_41 : decode cX7_alter 41 = .ok (.ireturn, 1) := by decide +kernel
theorem dX7_alter_42 : decode cX7_alter 42 = .ok (.aload_n 0, 1) := by decide +kernel
theorem dX7_alter_43 : decode cX7_alter 43 = .ok (.getfield 10, 3) := by decide +kernel
theorem dX7_alter_46 : decode cX7_alter 46 = .ok (.iload_n 1, 1) := by decide +kernel
theorem dX7_alter_47 : decode cX7_alter 47 = .ok (.invokevirtual 97, 3) := by decide +kernel
theorem dX7_alter_50 : decode cX7_alter 50 = .ok (.ifCond .ne 19, 3) := by decide +kernel
theorem dX7_alter_53 : decode cX7_alter 53 = .ok (.aload_n 0, 1) := by decide +kernel
theorem dX7_alter_54 : decode cX7_alter 54 = .ok (.getfield 10, 3) := by decide +kernel
theorem dX7_alter_57 : decode cX7_alter 57 = .ok (.getfield 46, 3) := by decide +kernel
theorem dX7_alter_60 : decode cX7_alter 60 = .ok (.iload_n 1, 1) := by decide +kernel
theorem dX7_alter_61 : decode cX7_alter 61 = .ok (.iload_n 2, 1) := by decide +kernel
theorem dX7_alter_62 : decode cX7_alter 62 = .ok (.iload_n 3, 1) := by decide +kernel
theorem dX7_alter_63 : decode cX7_alter 63 = .ok (.invokevirtual 100, 3) := by decide +kernel
theorem dX7_alter_66 : decode cX7_alter 66 = .ok (.ifCond .ne 7, 3) := by decide +kernel
theorem dX7_alter_69 : decode cX7_alter 69 = .ok (.sipush (-2002), 3) := by decide +kernel
theorem dX7_alter_72 : decode cX7_alter 72 = .ok (.ireturn, 1) := by decide +kernel
theorem dX7_alter_73 : decode cX7_alter 73 = .ok (.aload_n 0, 1) := by decide +kernel
theorem dX7_alter_74 : decode cX7_alter 74 = .ok (.getfield 10, 3) := by decide +kernel
theorem dX7_alter_77 : decode cX7_alter 77 = .ok (.getfield 46, 3) := by decide +kernel
theorem dX7_alter_80 : decode cX7_alter 80 = .ok (.iload_n 1, 1) := by decide +kernel
theorem dX7_alter_81 : decode cX7_alter 81 = .ok (.invokevirtual 103, 3) := by decide +kernel
theorem dX7_alter_84 : decode cX7_alter 84 = .ok (.ifCond .gt 7, 3) := by decide +kernel
theorem dX7_alter_87 : decode cX7_alter 87 = .ok (.sipush (-2003), 3) := by decide +kernel
theorem dX7_alter_90 : decode cX7_alter 90 = .ok (.ireturn, 1) := by decide +kernel
theorem dX7_alter_91 : decode cX7_alter 91 = .ok (.aload_n 0, 1) := by decide +kernel
theorem dX7_alter_92 : decode cX7_alter 92 = .ok (.getfield 19, 3) := by decide +kernel
theorem dX7_alter_95 : decode cX7_alter 95 = .ok (.aload_n 0, 1) := by decide +kernel
theorem dX7_alter_96 : decode cX7_alter 96 = .ok (.getfield 10, 3) := by decide +kernel
theorem dX7_alter_99 : decode cX7_alter 99 = .ok (.invokevirtual 56, 3) := by decide +kernel
theorem dX7_alter_102 : decode cX7_alter 102 = .ok (.aload_n 0, 1) := by decide +kernel
theorem dX7_alter_103 : decode cX7_alter 103 = .ok (.getfield 10, 3) := by decide +kernel
theorem dX7_alter_106 : decode cX7_alter 106 = .ok (.getfield 46, 3) := by decide +kernel
theorem dX7_alter_109 : decode cX7_alter 109 = .ok (.iload_n 1, 1) := by decide +kernel
theorem dX7_alter_110 : decode cX7_alter 110 = .ok (.iload_n 2, 1) := by decide +kernel
theorem dX7_alter_111 : decode cX7_alter 111 = .ok (.iload_n 3, 1) := by decide +kernel
theorem dX7_alter_112 : decode cX7_alter 112 = .ok (.invokevirtual 107, 3) := by decide +kernel
theorem dX7_alter_115 : decode cX7_alter 115 = .ok (.bipush 10, 2) := by decide +kernel
theorem dX7_alter_117 : decode cX7_alter 117 = .ok (.iconst 5, 1) := by decide +kernel
theorem dX7_alter_118 : decode cX7_alter 118 = .ok (.iload_n 3, 1) := by decide +kernel
theorem dX7_alter_119 : decode cX7_alter 119 = .ok (.invokestatic 111, 3) := by decide +kernel
theorem dX7_alter_122 : decode cX7_alter 122 = .ok (.imul, 1) := by decide +kernel
theorem dX7_alter_123 : decode cX7_alter 123 = .ok (.iadd, 1) := by decide +kernel
theorem dX7_alter_124 : decode cX7_alter 124 = .ok (.istore 4, 2) := by decide +kernel
theorem dX7_alter_126 : decode cX7_alter 126 = .ok (.aload_n 0, 1) := by decide +kernel
theorem dX7_alter_127 : decode cX7_alter 127 = .ok (.getfield 10, 3) := by decide +kernel
theorem dX7_alter_130 : decode cX7_alter 130 = .ok (.dup, 1) := by decide +kernel
theorem dX7_alter_131 : decode cX7_alter 131 = .ok (.getfield 116, 3) := by decide +kernel
theorem dX7_alter_134 : decode cX7_alter 134 = .ok (.iload 4, 2) := by decide +kernel
theorem dX7_alter_136 : decode cX7_alter 136 = .ok (.iadd, 1) := by decide +kernel
theorem dX7_alter_137 : decode cX7_alter 137 = .ok (.putfield 116, 3) := by decide +kernel
theorem dX7_alter_140 : decode cX7_alter 140 = .ok (.iload 4, 2) := by decide +kernel
theorem dX7_alter_142 : decode cX7_alter 142 = .ok (.ireturn, 1) := by decide +kernel
theorem dX7_unpick_0 : decode cX7_unpick 0 = .ok (.aload_n 0, 1) := by decide +kernel
theorem dX7_unpick_1 : decode cX7_unpick 1 = .ok (.getfield 10, 3) := by decide +kernel
theorem dX7_unpick_4 : decode cX7_unpick 4 = .ok (.getfield 46, 3) := by decide +kernel
theorem dX7_unpick_7 : decode cX7_unpick 7 = .ok (.iload_n 1, 1) := by decide +kernel
theorem dX7_unpick_8 : decode cX7_unpick 8 = .ok (.invokevirtual 64, 3) := by decide +kernel
theorem dX7_unpick_11 : decode cX7_unpick 11 = .ok (.ifCond .ne 7, 3) := by decide +kernel
theorem dX7_unpick_14 : decode cX7_unpick 14 = .ok (.sipush (-2001), 3) := by decide +kernel
theorem dX7_unpick_17 : decode cX7_unpick 17 = .ok (.ireturn, 1) := by decide +kernel
theorem dX7_unpick_18 : decode cX7_unpick 18 = .ok (.aload_n 0, 1) := by decide +kernel
theorem dX7_unpick_19 : decode cX7_unpick 19 = .ok (.getfield 10, 3) := by decide +kernel
theorem dX7_unpick_22 : decode cX7_unpick 22 = .ok (.iload_n 1, 1) := by decide +kernel
theorem dX7_unpick_23 : decode cX7_unpick 23 = .ok (.invokevirtual 97, 3) := by decide +kernel
theorem dX7_unpick_26 : decode cX7_unpick 26 = .ok (.ifCond .ne 20, 3) := by decide +kernel
theorem dX7_unpick_29 : decode cX7_unpick 29 = .ok (.aload_n 0, 1) := by decide +kernel
theorem dX7_unpick_30 : decode cX7_unpick 30 = .ok (.getfield 10, 3) := by decide +kernel
theorem dX7_unpick_33 : decode cX7_unpick 33 = .ok (.getfield 46, 3) := by decide +kernel
theorem dX7_unpick_36 : decode cX7_unpick 36 = .ok (.getfield 119, 3) := by decide +kernel
theorem dX7_unpick_39 : decode cX7_unpick 39 = .ok (.iload_n 1, 1) := by decide +kernel
theorem dX7_unpick_40 : decode cX7_unpick 40 = .ok (.invokestatic 72, 3) := by decide +kernel
theorem dX7_unpick_43 : decode cX7_unpick 43 = .ok (.ifCond .gt 7, 3) := by decide +kernel
theorem dX7_unpick_46 : decode cX7_unpick 46 = .ok (.sipush (-2002), 3) := by decide +kernel
theorem dX7_unpick_49 : decode cX7_unpick 49 = .ok (.ireturn, 1) := by decide +kernel
theorem dX7_unpick_50 : decode cX7_unpick 50 = .ok (.aload_n 0, 1) := by decide +kernel
theorem dX7_unpick_51 : decode cX7_unpick 51 = .ok (.getfield 19, 3) := by decide +kernel
theorem dX7_unpick_54 : decode cX7_unpick 54 = .ok (.aload_n 0, 1) := by decide +kernel
theorem dX7_unpick_55 : decode cX7_unpick 55 = .ok (.getfield 10, 3) := by decide +kernel
theorem dX7_unpick_58 : decode cX7_unpick 58 = .ok (.invokevirtual 56, 3) := by decide +kernel
theorem dX7_unpick_61 : decode cX7_unpick 61 = .ok (.aload_n 0, 1) := by decide +kernel
theorem dX7_unpick_62 : decode cX7_unpick 62 = .ok (.getfield 10, 3) := by decide +kernel
theorem dX7_unpick_65 : decode cX7_unpick 65 = .ok (.getfield 46, 3) := by decide +kernel
theorem dX7_unpick_68 : decode cX7_unpick 68 = .ok (.iload_n 1, 1) := by decide +kernel
theorem dX7_unpick_69 : decode cX7_unpick 69 = .ok (.invokevirtual 122, 3) := by decide +kernel
theorem dX7_unpick_72 : decode cX7_unpick 72 = .ok (.istore_n 2, 1) := by decide +kernel
theorem dX7_unpick_73 : decode cX7_unpick 73 = .ok (.iconst 5, 1) := by decide +kernel
theorem dX7_unpick_74 : decode cX7_unpick 74 = .ok (.iconst 2, 1) := by decide +kernel
theorem dX7_unpick_75 : decode cX7_unpick 75 = .ok (.iload_n 2, 1) := by decide +kernel
theorem dX7_unpick_76 : decode cX7_unpick 76 = .ok (.invokestatic 111, 3) := by decide +kernel
theorem dX7_unpick_79 : decode cX7_unpick 79 = .ok (.imul, 1) := by decide +kernel
theorem dX7_unpick_80 : decode cX7_unpick 80 = .ok (.iadd, 1) := by decide +kernel
theorem dX7_unpick_81 : decode cX7_unpick 81 = .ok (.istore_n 3, 1) := by decide +kernel
theorem dX7_unpick_82 : decode cX7_unpick 82 = .ok (.aload_n 0, 1) := by decide +kernel
theorem dX7_unpick_83 : decode cX7_unpick 83 = .ok (.getfield 10, 3) := by decide +kernel
theorem dX7_unpick_86 : decode cX7_unpick 86 = .ok (.dup, 1) := by decide +kernel
theorem dX7_unpick_87 : decode cX7_unpick 87 = .ok (.getfield 116, 3) := by decide +kernel
theorem dX7_unpick_90 : decode cX7_unpick 90 = .ok (.iload_n 3, 1) := by decide +kernel
theorem dX7_unpick_91 : decode cX7_unpick 91 = .ok (.iadd, 1) := by decide +kernel
theorem dX7_unpick_92 : decode cX7_unpick 92 = .ok (.putfield 116, 3) := by decide +kernel
theorem dX7_unpick_95 : decode cX7_unpick 95 = .ok (.iload_n 3, 1) := by decide +kernel
theorem dX7_unpick_96 : decode cX7_unpick 96 = .ok (.ireturn, 1) := by decide +kernel
theorem dX7_append_0 : decode cX7_append 0 = .ok (.iload_n 1, 1) := by decide +kernel
theorem dX7_append_1 : decode cX7_append 1 = .ok (.iconst 1, 1) := by decide +kernel
theorem dX7_append_2 : decode cX7_append 2 = .ok (.sipush 255, 3) := by decide +kernel
theorem dX7_append_5 : decode cX7_append 5 = .ok (.invokestatic 43, 3) := by decide +kernel
theorem dX7_append_8 : decode cX7_append 8 = .ok (.ifCond .ne 7, 3) := by decide +kernel
theorem dX7_append_11 : decode cX7_append 11 = .ok (.sipush (-2001), 3) := by decide +kernel
theorem dX7_append_14 : decode cX7_append 14 = .ok (.ireturn, 1) := by decide +kernel
theorem dX7_append_15 : decode cX7_append 15 = .ok (.aload_n 0, 1) := by decide +kernel
theorem dX7_append_16 : decode cX7_append 16 = .ok (.getfield 26, 3) := by decide +kernel
theorem dX7_append_19 : decode cX7_append 19 = .ok (.getfield 125, 3) := by decide +kernel
theorem dX7_append_22 : decode cX7_append 22 = .ok (.bipush 120, 2) := by decide +kernel
theorem dX7_append_24 : decode cX7_append 24 = .ok (.if_icmp .lt 7, 3) := by decide +kernel
theorem dX7_append_27 : decode cX7_append 27 = .ok (.sipush (-2003), 3) := by decide +kernel
theorem dX7_append_30 : decode cX7_append 30 = .ok (.ireturn, 1) := by decide +kernel
theorem dX7_append_31 : decode cX7_append 31 = .ok (.aload_n 0, 1) := by decide +kernel
theorem dX7_append_32 : decode cX7_append 32 = .ok (.getfield 26, 3) := by decide +kernel
theorem dX7_append_35 : decode cX7_append 35 = .ok (.iload_n 1, 1) := by decide +kernel
theorem dX7_append_36 : decode cX7_append 36 = .ok (.invokevirtual 128, 3) := by decide +kernel
theorem dX7_append_39 : decode cX7_append 39 = .ok (.ireturn, 1) := by decide +kernel
theorem dX7_load_0 : decode cX7_load 0 = .ok (.aload_n 0, 1) := by decide +kernel
theorem dX7_load_1 : decode cX7_load 1 = .ok (.getfield 35, 3) := by decide +kernel
theorem dX7_load_4 : decode cX7_load 4 = .ok (.aload_n 0, 1) := by decide +kernel
theorem dX7_load_5 : decode cX7_load 5 = .ok (.getfield 10, 3) := by decide +kernel
theorem dX7_load_8 : decode cX7_load 8 = .ok (.getfield 46, 3) := by decide +kernel
theorem dX7_load_11 : decode cX7_load 11 = .ok (.getfield 50, 3) := by decide +kernel
theorem dX7_load_14 : decode cX7_load 14 = .ok (.aload_n 0, 1) := by decide +kernel
theorem dX7_load_15 : decode cX7_load 15 = .ok (.getfield 10, 3) := by decide +kernel
theorem dX7_load_18 : decode cX7_load 18 = .ok (.getfield 80, 3) := by decide +kernel
theorem dX7_load_21 : decode cX7_load 21 = .ok (.getfield 84, 3) := by decide +kernel
theorem dX7_load_24 : decode cX7_load 24 = .ok (.invokevirtual 134, 3) := by decide +kernel
theorem dX7_load_27 : decode cX7_load 27 = .ok (.ifCond .ne 15, 3) := by decide +kernel
theorem dX7_load_30 : decode cX7_load 30 = .ok (.sipush (-10000), 3) := by decide +kernel
theorem dX7_load_33 : decode cX7_load 33 = .ok (.aload_n 0, 1) := by decide +kernel
theorem dX7_load_34 : decode cX7_load 34 = .ok (.getfield 35, 3) := by decide +kernel
theorem dX7_load_37 : decode cX7_load 37 = .ok (.getfield 137, 3) := by decide +kernel
theorem dX7_load_40 : decode cX7_load 40 = .ok (.isub, 1) := by decide +kernel
theorem dX7_load_41 : decode cX7_load 41 = .ok (.ireturn, 1) := by decide +kernel
theorem dX7_load_42 : decode cX7_load 42 = .ok (.aload_n 0, 1) := by decide +kernel
theorem dX7_load_43 : decode cX7_load 43 = .ok (.getfield 19, 3) := by decide +kernel
theorem dX7_load_46 : decode cX7_load 46 = .ok (.aload_n 0, 1) := by decide +kernel
theorem dX7_load_47 : decode cX7_load 47 = .ok (.getfield 10, 3) := by decide +kernel
theorem dX7_load_50 : decode cX7_load 50 = .ok (.invokevirtual 56, 3) := by decide +kernel
theorem dX7_load_53 : decode cX7_load 53 = .ok (.iconst 0, 1) := by decide +kernel
theorem dX7_load_54 : decode cX7_load 54 = .ok (.istore_n 1, 1) := by decide +kernel
theorem dX7_load_55 : decode cX7_load 55 = .ok (.iload_n 1, 1) := by decide +kernel
theorem dX7_load_56 : decode cX7_load 56 = .ok (.aload_n 0, 1) := by decide +kernel
theorem dX7_load_57 : decode cX7_load 57 = .ok (.getfield 35, 3) := by decide +kernel
theorem dX7_load_60 : decode cX7_load 60 = .ok (.getfield 140, 3) := by decide +kernel
theorem dX7_load_63 : decode cX7_load 63 = .ok (.if_icmp .ge 14, 3) := by decide +kernel
theorem dX7_load_66 : decode cX7_load 66 = .ok (.aload_n 0, 1) := by decide +kernel
theorem dX7_load_67 : decode cX7_load 67 = .ok (.iload_n 1, 1) := by decide +kernel
theorem dX7_load_68 : decode cX7_load 68 = .ok (.invokevirtual 143, 3) := by decide +kernel
theorem dX7_load_71 : decode cX7_load 71 = .ok (.iinc 1 1, 3) := by decide +kernel
theorem dX7_load_74 : decode cX7_load 74 = .ok (.goto (-19), 3) := by decide +kernel
theorem dX7_load_77 : decode cX7_load 77 = .ok (.aload_n 0, 1) := by decide +kernel
theorem dX7_load_78 : decode cX7_load 78 = .ok (.getfield 26, 3) := by decide +kernel
theorem dX7_load_81 : decode cX7_load 81 = .ok (.invokevirtual 130, 3) := by decide +kernel
theorem dX7_load_84 : decode cX7_load 84 = .ok (.pop, 1) := by decide +kernel
theorem dX7_load_85 : decode cX7_load 85 = .ok (.aload_n 0, 1) := by decide +kernel
theorem dX7_load_86 : decode cX7_load 86 = .ok (.getfield 35, 3) := by decide +kernel
theorem dX7_load_89 : decode cX7_load 89 = .ok (.getfield 140, 3) := by decide +kernel
theorem dX7_load_92 : decode cX7_load 92 = .ok (.ireturn, 1) := by decide +kernel
theorem dX7_addItem_0 : decode cX7_addItem 0 = .ok (.aload_n 0, 1) := by decide +kernel
theorem dX7_addItem_1 : decode cX7_addItem 1 = .ok (.getfield 35, 3) := by decide +kernel
theorem dX7_addItem_4 : decode cX7_addItem 4 = .ok (.iload_n 1, 1) := by decide +kernel
theorem dX7_addItem_5 : decode cX7_addItem 5 = .ok (.iconst 1, 1) := by decide +kernel
theorem dX7_addItem_6 : decode cX7_addItem 6 = .ok (.invokevirtual 147, 3) := by decide +kernel
theorem dX7_addItem_9 : decode cX7_addItem 9 = .ok (.istore_n 2, 1) := by decide +kernel
theorem dX7_addItem_10 : decode cX7_addItem 10 = .ok (.aload_n 0, 1) := by decide +kernel
theorem dX7_addItem_11 : decode cX7_addItem 11 = .ok (.getfield 35, 3) := by decide +kernel
theorem dX7_addItem_14 : decode cX7_addItem 14 = .ok (.iload_n 1, 1) := by decide +kernel
theorem dX7_addItem_15 : decode cX7_addItem 15 = .ok (.iconst 2, 1) := by decide +kernel
theorem dX7_addItem_16 : decode cX7_addItem 16 = .ok (.invokevirtual 147, 3) := by decide +kernel
theorem dX7_addItem_19 : decode cX7_addItem 19 = .ok (.istore_n 3, 1) := by decide +kernel
theorem dX7_addItem_20 : decode cX7_addItem 20 = .ok (.aload_n 0, 1) := by decide +kernel
theorem dX7_addItem_21 : decode cX7_addItem 21 = .ok (.getfield 35, 3) := by decide +kernel
theorem dX7_addItem_24 : decode cX7_addItem 24 = .ok (.iload_n 1, 1) := by decide +kernel
theorem dX7_addItem_25 : decode cX7_addItem 25 = .ok (.iconst 3, 1) := by decide +kernel
theorem dX7_addItem_26 : decode cX7_addItem 26 = .ok (.invokevirtual 147, 3) := by decide +kernel
theorem dX7_addItem_29 : decode cX7_addItem 29 = .ok (.istore 4, 2) := by decide +kernel
theorem dX7_addItem_31 : decode cX7_addItem 31 = .ok (.aload_n 0, 1) := by decide +kernel
theorem dX7_addItem_32 : decode cX7_addItem 32 = .ok (.getfield 35, 3) := by decide +kernel
theorem dX7_addItem_35 : decode cX7_addItem 35 = .ok (.iload_n 1, 1) := by decide +kernel
theorem dX7_addItem_36 : decode cX7_addItem 36 = .ok (.iconst 0, 1) := by decide +kernel
theorem dX7_addItem_37 : decode cX7_addItem 37 = .ok (.invokevirtual 147, 3) := by decide +kernel
theorem dX7_addItem_40 : decode cX7_addItem 40 = .ok (.iconst 1, 1) := by decide +kernel
theorem dX7_addItem_41 : decode cX7_addItem 41 = .ok (.if_icmp .ne 21, 3) := by decide +kernel
theorem dX7_addItem_44 : decode cX7_addItem 44 = .ok (.aload_n 0, 1) := by decide +kernel
theorem dX7_addItem_45 : decode cX7_addItem 45 = .ok (.getfield 10, 3) := by decide +kernel
theorem dX7_addItem_48 : decode cX7_addItem 48 = .ok (.getfield 80, 3) := by decide +kernel
theorem dX7_addItem_51 : decode cX7_addItem 51 = .ok (.iload_n 2, 1) := by decide +kernel
theorem dX7_addItem_52 : decode cX7_addItem 52 = .ok (.iload_n 3, 1) := by decide +kernel
theorem dX7_addItem_53 : decode cX7_addItem 53 = .ok (.iload 4, 2) := by decide +kernel
theorem dX7_addItem_55 : decode cX7_addItem 55 = .ok (.invokevirtual 87, 3) := by decide +kernel
theorem dX7_addItem_58 : decode cX7_addItem 58 = .ok (.pop, 1) := by decide +kernel
theorem dX7_addItem_59 : decode cX7_addItem 59 = .ok (.goto 46, 3) := by decide +kernel
theorem dX7_addItem_62 : decode cX7_addItem 62 = .ok (.aload_n 0, 1) := by decide +kernel
theorem dX7_addItem_63 : decode cX7_addItem 63 = .ok (.getfield 10, 3) := by decide +kernel
theorem dX7_addItem_66 : decode cX7_addItem 66 = .ok (.getfield 46, 3) := by decide +kernel
theorem dX7_addItem_69 : decode cX7_addItem 69 = .ok (.iload_n 2, 1) := by decide +kernel
theorem dX7_addItem_70 : decode cX7_addItem 70 = .ok (.iload_n 3, 1) := by decide +kernel
theorem dX7_addItem_71 : decode cX7_addItem 71 = .ok (.iload 4, 2) := by decide +kernel
theorem dX7_addItem_73 : decode cX7_addItem 73 = .ok (.aload_n 0, 1) := by decide +kernel
theorem dX7_addItem_74 : decode cX7_addItem 74 = .ok (.getfield 35, 3) := by decide +kernel
theorem dX7_addItem_77 : decode cX7_addItem 77 = .ok (.iload_n 1, 1) := by decide +kernel
theorem dX7_addItem_78 : decode cX7_addItem 78 = .ok (.iconst 4, 1) := by decide +kernel
theorem dX7_addItem_79 : decode cX7_addItem 79 = .ok (.invokevirtual 147, 3) := by decide +kernel
theorem dX7_addItem_82 : decode cX7_addItem 82 = .ok (.aload_n 0, 1) := by decide +kernel
theorem dX7_addItem_83 : decode cX7_addItem 83 = .ok (.getfield 35, 3) := by decide +kernel
theorem dX7_addItem_86 : decode cX7_addItem 86 = .ok (.iload_n 1, 1) := by decide +kernel
theorem dX7_addItem_87 : decode cX7_addItem 87 = .ok (.iconst 5, 1) := by decide +kernel
theorem dX7_addItem_88 : decode cX7_addItem 88 = .ok (.invokevirtual 147, 3) := by decide +kernel
theorem dX7_addItem_91 : decode cX7_addItem 91 = .ok (.aload_n 0, 1) := by decide +kernel
theorem dX7_addItem_92 : decode cX7_addItem 92 = .ok (.getfield 35, 3) := by decide +kernel
theorem dX7_addItem_95 : decode cX7_addItem 95 = .ok (.iload_n 1, 1) := by decide +kernel
theorem dX7_addItem_96 : decode cX7_addItem 96 = .ok (.bipush 6, 2) := by decide +kernel
theorem dX7_addItem_98 : decode cX7_addItem 98 = .ok (.invokevirtual 147, 3) := by decide +kernel
theorem dX7_addItem_101 : decode cX7_addItem 101 = .ok (.invokevirtual 60, 3) := by decide +kernel
theorem dX7_addItem_104 : decode cX7_addItem 104 = .ok (.pop, 1) := by decide +kernel
theorem dX7_addItem_105 : decode cX7_addItem 105 = .ok (.return_, 1) := by decide +kernel
theorem dX7_wear_0 : decode cX7_wear 0 = .ok (.iload_n 1, 1) := by decide +kernel
theorem dX7_wear_1 : decode cX7_wear 1 = .ok (.iconst 0, 1) := by decide +kernel
theorem dX7_wear_2 : decode cX7_wear 2 = .ok (.bipush 11, 2) := by decide +kernel
theorem dX7_wear_4 : decode cX7_wear 4 = .ok (.invokestatic 43, 3) := by decide +kernel
theorem dX7_wear_7 : decode cX7_wear 7 = .ok (.ifCond .eq 36, 3) := by decide +kernel
theorem dX7_wear_10 : decode cX7_wear 10 = .ok (.aload_n 0, 1) := by decide +kernel
theorem dX7_wear_11 : decode cX7_wear 11 = .ok (.getfield 10, 3) := by decide +kernel
theorem dX7_wear_14 : decode cX7_wear 14 = .ok (.getfield 80, 3) := by decide +kernel
theorem dX7_wear_17 : decode cX7_wear 17 = .ok (.iload_n 2, 1) := by decide +kernel
theorem dX7_wear_18 : decode cX7_wear 18 = .ok (.invokevirtual 151, 3) := by decide +kernel
theorem dX7_wear_21 : decode cX7_wear 21 = .ok (.ifCond .eq 22, 3) := by decide +kernel
theorem dX7_wear_24 : decode cX7_wear 24 = .ok (.iload_n 3, 1) := by decide +kernel
theorem dX7_wear_25 : decode cX7_wear 25 = .ok (.iconst (-1), 1) := by decide +kernel
theorem dX7_wear_26 : decode cX7_wear 26 = .ok (.if_icmp .eq 21, 3) := by decide +kernel
theorem dX7_wear_29 : decode cX7_wear 29 = .ok (.aload_n 0, 1) := by decide +kernel
theorem dX7_wear_30 : decode cX7_wear 30 = .ok (.getfield 10, 3) := by decide +kernel
theorem dX7_wear_33 : decode cX7_wear 33 = .ok (.getfield 46, 3) := by decide +kernel
theorem dX7_wear_36 : decode cX7_wear 36 = .ok (.iload_n 3, 1) := by decide +kernel
theorem dX7_wear_37 : decode cX7_wear 37 = .ok (.invokevirtual 64, 3) := by decide +kernel
theorem dX7_wear_40 : decode cX7_wear 40 = .ok (.ifCond .ne 7, 3) := by decide +kernel
theorem dX7_wear_43 : decode cX7_wear 43 = .ok (.sipush (-2001), 3) := by decide +kernel
theorem dX7_wear_46 : decode cX7_wear 46 = .ok (.ireturn, 1) := by decide +kernel
theorem dX7_wear_47 : decode cX7_wear 47 = .ok (.aload_n 0, 1) := by decide +kernel
theorem dX7_wear_48 : decode cX7_wear 48 = .ok (.getfield 19, 3) := by decide +kernel
theorem dX7_wear_51 : decode cX7_wear 51 = .ok (.aload_n 0, 1) := by decide +kernel
theorem dX7_wear_52 : decode cX7_wear 52 = .ok (.getfield 10, 3) := by decide +kernel
theorem dX7_wear_55 : decode cX7_wear 55 = .ok (.invokevirtual 56, 3) := by decide +kernel
theorem dX7_wear_58 : decode cX7_wear 58 = .ok (.aload_n 0, 1) := by decide +kernel
theorem dX7_wear_59 : decode cX7_wear 59 = .ok (.getfield 10, 3) := by decide +kernel
theorem dX7_wear_62 : decode cX7_wear 62 = .ok (.getfield 80, 3) := by decide +kernel
theorem dX7_wear_65 : decode cX7_wear 65 = .ok (.iload_n 1, 1) := by decide +kernel
theorem dX7_wear_66 : decode cX7_wear 66 = .ok (.iload_n 2, 1) := by decide +kernel
theorem dX7_wear_67 : decode cX7_wear 67 = .ok (.iload_n 3, 1) := by decide +kernel
theorem dX7_wear_68 : decode cX7_wear 68 = .ok (.invokevirtual 152, 3) := by decide +kernel
theorem dX7_wear_71 : decode cX7_wear 71 = .ok (.ireturn, 1) := by decide +kernel
theorem dX7_perform_0 : decode cX7_perform 0 = .ok (.iconst 0, 1) := by decide +kernel
theorem dX7_perform_1 : decode cX7_perform 1 = .ok (.istore_n 1, 1) := by decide +kernel
theorem dX7_perform_2 : decode cX7_perform 2 = .ok (.iload_n 1, 1) := by decide +kernel
theorem dX7_perform_3 : decode cX7_perform 3 = .ok (.iconst 5, 1) := by decide +kernel
theorem dX7_perform_4 : decode cX7_perform 4 = .ok (.if_icmp .ge 24, 3) := by decide +kernel
theorem dX7_perform_7 : decode cX7_perform 7 = .ok (.aload_n 0, 1) := by decide +kernel
theorem dX7_perform_8 : decode cX7_perform 8 = .ok (.getfield 10, 3) := by decide +kernel
theorem dX7_perform_11 : decode cX7_perform 11 = .ok (.iload_n 1, 1) := by decide +kernel
theorem dX7_perform_12 : decode cX7_perform 12 = .ok (.invokevirtual 155, 3) := by decide +kernel
theorem dX7_perform_15 : decode cX7_perform 15 = .ok (.ifCond .le 7, 3) := by decide +kernel
theorem dX7_perform_18 : decode cX7_perform 18 = .ok (.sipush (-2002), 3) := by decide +kernel
theorem dX7_perform_21 : decode cX7_perform 21 = .ok (.ireturn, 1) := by decide +kernel
theorem dX7_perform_22 : decode cX7_perform 22 = .ok (.iinc 1 1, 3) := by decide +kernel
theorem dX7_perform_25 : decode cX7_perform 25 = .ok (.goto (-23), 3) := by decide +kernel
theorem dX7_perform_28 : decode cX7_perform 28 = .ok (.aload_n 0, 1) := by decide +kernel
theorem dX7_perform_29 : decode cX7_perform 29 = .ok (.getfield 10, 3) := by decide +kernel
theorem dX7_perform_32 : decode cX7_perform 32 = .ok (.getfield 158, 3) := by decide +kernel
theorem dX7_perform_35 : decode cX7_perform 35 = .ok (.sipush 300, 3) := by decide +kernel
theorem dX7_perform_38 : decode cX7_perform 38 = .ok (.if_icmp .lt 7, 3) := by decide +kernel
theorem dX7_perform_41 : decode cX7_perform 41 = .ok (.sipush (-2003), 3) := by decide +kernel
theorem dX7_perform_44 : decode cX7_perform 44 = .ok (.ireturn, 1) := by decide +kernel
theorem dX7_perform_45 : decode cX7_perform 45 = .ok (.aload_n 0, 1) := by decide +kernel
theorem dX7_perform_46 : decode cX7_perform 46 = .ok (.getfield 19, 3) := by decide +kernel
theorem dX7_perform_49 : decode cX7_perform 49 = .ok (.aload_n 0, 1) := by decide +kernel
theorem dX7_perform_50 : decode cX7_perform 50 = .ok (.getfield 10, 3) := by decide +kernel
theorem dX7_perform_53 : decode cX7_perform 53 = .ok (.invokevirtual 56, 3) := by decide +kernel
theorem dX7_perform_56 : decode cX7_perform 56 = .ok (.aload_n 0, 1) := by decide +kernel
theorem dX7_perform_57 : decode cX7_perform 57 = .ok (.getfield 10, 3) := by decide +kernel
theorem dX7_perform_60 : decode cX7_perform 60 = .ok (.invokevirtual 161, 3) := by decide +kernel
theorem dX7_perform_63 : decode cX7_perform 63 = .ok (.aload_n 0, 1) := by decide +kernel
theorem dX7_perform_64 : decode cX7_perform 64 = .ok (.getfield 10, 3) := by decide +kernel
theorem dX7_perform_67 : decode cX7_perform 67 = .ok (.dup, 1) := by decide +kernel
theorem dX7_perform_68 : decode cX7_perform 68 = .ok (.getfield 164, 3) := by decide +kernel
theorem dX7_perform_71 : decode cX7_perform 71 = .ok (.iconst 1, 1) := by decide +kernel
theorem dX7_perform_72 : decode cX7_perform 72 = .ok (.iadd, 1) := by decide +kernel
theorem dX7_perform_73 : decode cX7_perform 73 = .ok (.putfield 164, 3) := by decide +kernel
theorem dX7_perform_76 : decode cX7_perform 76 = .ok (.aload_n 0, 1) := by decide +kernel
theorem dX7_perform_77 : decode cX7_perform 77 = .ok (.getfield 10, 3) := by decide +kernel
theorem dX7_perform_80 : decode cX7_perform 80 = .ok (.dup, 1) := by decide +kernel
theorem dX7_perform_81 : decode cX7_perform 81 = .ok (.getfield 158, 3) := by decide +kernel
theorem dX7_perform_84 : decode cX7_perform 84 = .ok (.iconst 1, 1) := by decide +kernel
theorem dX7_perform_85 : decode cX7_perform 85 = .ok (.iadd, 1) := by decide +kernel
theorem dX7_perform_86 : decode cX7_perform 86 = .ok (.putfield 158, 3) := by decide +kernel
theorem dX7_perform_89 : decode cX7_perform 89 = .ok (.aload_n 0, 1) := by decide +kernel
theorem dX7_perform_90 : decode cX7_perform 90 = .ok (.getfield 10, 3) := by decide +kernel
theorem dX7_perform_93 : decode cX7_perform 93 = .ok (.getfield 158, 3) := by decide +kernel
theorem dX7_perform_96 : decode cX7_perform 96 = .ok (.ireturn, 1) := by decide +kernel
theorem dX7_pass_0 : decode cX7_pass 0 = .ok (.iload_n 1, 1) := by decide +kernel
theorem dX7_pass_1 : decode cX7_pass 1 = .ok (.iconst 1, 1) := by decide +kernel
theorem dX7_pass_2 : decode cX7_pass 2 = .ok (.bipush 60, 2) := by decide +kernel
theorem dX7_pass_4 : decode cX7_pass 4 = .ok (.invokestatic 43, 3) := by decide +kernel
theorem dX7_pass_7 : decode cX7_pass 7 = .ok (.ifCond .ne 7, 3) := by decide +kernel
theorem dX7_pass_10 : decode cX7_pass 10 = .ok (.sipush (-2001), 3) := by decide +kernel
theorem dX7_pass_13 : decode cX7_pass 13 = .ok (.ireturn, 1) := by decide +kernel
theorem dX7_pass_14 : decode cX7_pass 14 = .ok (.aload_n 0, 1) := by decide +kernel
theorem dX7_pass_15 : decode cX7_pass 15 = .ok (.getfield 10, 3) := by decide +kernel
theorem dX7_pass_18 : decode cX7_pass 18 = .ok (.getfield 158, 3) := by decide +kernel
theorem dX7_pass_21 : decode cX7_pass 21 = .ok (.iload_n 1, 1) := by decide +kernel
theorem dX7_pass_22 : decode cX7_pass 22 = .ok (.iadd, 1) := by decide +kernel
theorem dX7_pass_23 : decode cX7_pass 23 = .ok (.sipush 300, 3) := by decide +kernel
theorem dX7_pass_26 : decode cX7_pass 26 = .ok (.if_icmp .le 7, 3) := by decide +kernel
theorem dX7_pass_29 : decode cX7_pass 29 = .ok (.sipush (-2003), 3) := by decide +kernel
theorem dX7_pass_32 : decode cX7_pass 32 = .ok (.ireturn, 1) := by decide +kernel
theorem dX7_pass_33 : decode cX7_pass 33 = .ok (.aload_n 0, 1) := by decide +kernel
theorem dX7_pass_34 : decode cX7_pass 34 = .ok (.getfield 19, 3) := by decide +kernel
theorem dX7_pass_37 : decode cX7_pass 37 = .ok (.aload_n 0, 1) := by decide +kernel
theorem dX7_pass_38 : decode cX7_pass 38 = .ok (.getfield 10, 3) := by decide +kernel
theorem dX7_pass_41 : decode cX7_pass 41 = .ok (.invokevirtual 56, 3) := by decide +kernel
theorem dX7_pass_44 : decode cX7_pass 44 = .ok (.aload_n 0, 1) := by decide +kernel
theorem dX7_pass_45 : decode cX7_pass 45 = .ok (.getfield 10, 3) := by decide +kernel
theorem dX7_pass_48 : decode cX7_pass 48 = .ok (.dup, 1) := by decide +kernel
theorem dX7_pass_49 : decode cX7_pass 49 = .ok (.getfield 158, 3) := by decide +kernel
theorem dX7_pass_52 : decode cX7_pass 52 = .ok (.iload_n 1, 1) := by decide +kernel
theorem dX7_pass_53 : decode cX7_pass 53 = .ok (.iadd, 1) := by decide +kernel
theorem dX7_pass_54 : decode cX7_pass 54 = .ok (.putfield 158, 3) := by decide +kernel
theorem dX7_pass_57 : decode cX7_pass 57 = .ok (.aload_n 0, 1) := by decide +kernel
theorem dX7_pass_58 : decode cX7_pass 58 = .ok (.getfield 10, 3) := by decide +kernel
theorem dX7_pass_61 : decode cX7_pass 61 = .ok (.getfield 158, 3) := by decide +kernel
theorem dX7_pass_64 : decode cX7_pass 64 = .ok (.ireturn, 1) := by decide +kernel
theorem dX7_hire_0 : decode cX7_hire 0 = .ok (.aload_n 0, 1) := by decide +kernel
theorem dX7_hire_1 : decode cX7_hire 1 = .ok (.getfield 10, 3) := by decide +kernel
theorem dX7_hire_4 : decode cX7_hire 4 = .ok (.getfield 46, 3) := by decide +kernel
theorem dX7_hire_7 : decode cX7_hire 7 = .ok (.iload_n 1, 1) := by decide +kernel
theorem dX7_hire_8 : decode cX7_hire 8 = .ok (.invokevirtual 64, 3) := by decide +kernel
theorem dX7_hire_11 : decode cX7_hire 11 = .ok (.ifCond .eq 41, 3) := by decide +kernel
theorem dX7_hire_14 : decode cX7_hire 14 = .ok (.iload_n 2, 1) := by decide +kernel
theorem dX7_hire_15 : decode cX7_hire 15 = .ok (.aload_n 0, 1) := by decide +kernel
theorem dX7_hire_16 : decode cX7_hire 16 = .ok (.getfield 10, 3) := by decide +kernel
theorem dX7_hire_19 : decode cX7_hire 19 = .ok (.getfield 158, 3) := by decide +kernel
theorem dX7_hire_22 : decode cX7_hire 22 = .ok (.sipush 300, 3) := by decide +kernel
theorem dX7_hire_25 : decode cX7_hire 25 = .ok (.invokestatic 43, 3) := by decide +kernel
theorem dX7_hire_28 : decode cX7_hire 28 = .ok (.ifCond .eq 24, 3) := by decide +kernel
theorem dX7_hire_31 : decode cX7_hire 31 = .ok (.iload_n 3, 1) := by decide +kernel
theorem dX7_hire_32 : decode cX7_hire 32 = .ok (.iconst 1, 1) := by decide +kernel
theorem dX7_hire_33 : decode cX7_hire 33 = .ok (.bipush 60, 2) := by decide +kernel
theorem dX7_hire_35 : decode cX7_hire 35 = .ok (.invokestatic 43, 3) := by decide +kernel
theorem dX7_hire_38 : decode cX7_hire 38 = .ok (.ifCond .eq 14, 3) := by decide +kernel
theorem dX7_hire_41 : decode cX7_hire 41 = .ok (.iload 4, 2) := by decide +kernel
theorem dX7_hire_43 : decode cX7_hire 43 = .ok (.iconst 1, 1) := by decide +kernel
theorem dX7_hire_44 : decode cX7_hire 44 = .ok (.bipush 50, 2) := by decide +kernel
theorem dX7_hire_46 : decode cX7_hire 46 = .ok (.invokestatic 43, 3) := by decide +kernel
theorem dX7_hire_49 : decode cX7_hire 49 = .ok (.ifCond .ne 7, 3) := by decide +kernel
theorem dX7_hire_52 : decode cX7_hire 52 = .ok (.sipush (-2001), 3) := by decide +kernel
theorem dX7_hire_55 : decode cX7_hire 55 = .ok (.ireturn, 1) := by decide +kernel
theorem dX7_hire_56 : decode cX7_hire 56 = .ok (.aload_n 0, 1) := by decide +kernel
theorem dX7_hire_57 : decode cX7_hire 57 = .ok (.getfield 10, 3) := by decide +kernel
theorem dX7_hire_60 : decode cX7_hire 60 = .ok (.getfield 167, 3) := by decide +kernel
theorem dX7_hire_63 : decode cX7_hire 63 = .ok (.iload_n 1, 1) := by decide +kernel
theorem dX7_hire_64 : decode cX7_hire 64 = .ok (.iload_n 2, 1) := by decide +kernel
theorem dX7_hire_65 : decode cX7_hire 65 = .ok (.iload_n 3, 1) := by decide +kernel
theorem dX7_hire_66 : decode cX7_hire 66 = .ok (.invokevirtual 171, 3) := by decide +kernel
theorem dX7_hire_69 : decode cX7_hire 69 = .ok (.ifCond .lt 7, 3) := by decide +kernel
theorem dX7_hire_72 : decode cX7_hire 72 = .ok (.sipush (-2002), 3) := by decide +kernel
theorem dX7_hire_75 : decode cX7_hire 75 = .ok (.ireturn, 1) := by decide +kernel
theorem dX7_hire_76 : decode cX7_hire 76 = .ok (.aload_n 0, 1) := by decide +kernel
theorem dX7_hire_77 : decode cX7_hire 77 = .ok (.getfield 10, 3) := by decide +kernel
theorem dX7_hire_80 : decode cX7_hire 80 = .ok (.getfield 167, 3) := by decide +kernel
theorem dX7_hire_83 : decode cX7_hire 83 = .ok (.getfield 176, 3) := by decide +kernel
theorem dX7_hire_86 : decode cX7_hire 86 = .ok (.bipush 24, 2) := by decide +kernel
theorem dX7_hire_88 : decode cX7_hire 88 = .ok (.if_icmp .lt 7, 3) := by decide +kernel
theorem dX7_hire_91 : decode cX7_hire 91 = .ok (.sipush (-2003), 3) := by decide +kernel
theorem dX7_hire_94 : decode cX7_hire 94 = .ok (.ireturn, 1) := by decide +kernel
theorem dX7_hire_95 : decode cX7_hire 95 = .ok (.aload_n 0, 1) := by decide +kernel
theorem dX7_hire_96 : decode cX7_hire 96 = .ok (.getfield 19, 3) := by decide +kernel
theorem dX7_hire_99 : decode cX7_hire 99 = .ok (.aload_n 0, 1) := by decide +kernel
theorem dX7_hire_100 : decode cX7_hire 100 = .ok (.getfield 10, 3) := by decide +kernel
theorem dX7_hire_103 : decode cX7_hire 103 = .ok (.invokevirtual 56, 3) := by decide +kernel
theorem dX7_hire_106 : decode cX7_hire 106 = .ok (.aload_n 0, 1) := by decide +kernel
theorem dX7_hire_107 : decode cX7_hire 107 = .ok (.getfield 10, 3) := by decide +kernel
theorem dX7_hire_110 : decode cX7_hire 110 = .ok (.getfield 167, 3) := by decide +kernel
theorem dX7_hire_113 : decode cX7_hire 113 = .ok (.iload_n 1, 1) := by decide +kernel
theorem dX7_hire_114 : decode cX7_hire 114 = .ok (.iload_n 2, 1) := by decide +kernel
theorem dX7_hire_115 : decode cX7_hire 115 = .ok (.iload_n 3, 1) := by decide +kernel
theorem dX7_hire_116 : decode cX7_hire 116 = .ok (.iload 4, 2) := by decide +kernel
theorem dX7_hire_118 : decode cX7_hire 118 = .ok (.invokevirtual 177, 3) := by decide +kernel
theorem dX7_hire_121 : decode cX7_hire 121 = .ok (.istore 5, 2) := by decide +kernel
theorem dX7_hire_123 : decode cX7_hire 123 = .ok (.aload_n 0, 1) := by decide +kernel
theorem dX7_hire_124 : decode cX7_hire 124 = .ok (.getfield 10, 3) := by decide +kernel
theorem dX7_hire_127 : decode cX7_hire 127 = .ok (.dup, 1) := by decide +kernel
theorem dX7_hire_128 : decode cX7_hire 128 = .ok (.getfield 180, 3) := by decide +kernel
theorem dX7_hire_131 : decode cX7_hire 131 = .ok (.iload 5, 2) := by decide +kernel
theorem dX7_hire_133 : decode cX7_hire 133 = .ok (.iadd, 1) := by decide +kernel
theorem dX7_hire_134 : decode cX7_hire 134 = .ok (.putfield 180, 3) := by decide +kernel
theorem dX7_hire_137 : decode cX7_hire 137 = .ok (.iload 5, 2) := by decide +kernel
theorem dX7_hire_139 : decode cX7_hire 139 = .ok (.ireturn, 1) := by decide +kernel
theorem dX7_endHire_0 : decode cX7_endHire 0 = .ok (.aload_n 0, 1) := by decide +kernel
theorem dX7_endHire_1 : decode cX7_endHire 1 = .ok (.getfield 10, 3) := by decide +kernel
theorem dX7_endHire_4 : decode cX7_endHire 4 = .ok (.getfield 167, 3) := by decide +kernel
theorem dX7_endHire_7 : decode cX7_endHire 7 = .ok (.iload_n 1, 1) := by decide +kernel
theorem dX7_endHire_8 : decode cX7_endHire 8 = .ok (.invokevirtual 183, 3) := by decide +kernel
theorem dX7_endHire_11 : decode cX7_endHire 11 = .ok (.ifCond .ne 7, 3) := by decide +kernel
theorem dX7_endHire_14 : decode cX7_endHire 14 = .ok (.sipush (-2001), 3) := by decide +kernel
theorem dX7_endHire_17 : decode cX7_endHire 17 = .ok (.ireturn, 1) := by decide +kernel
theorem dX7_endHire_18 : decode cX7_endHire 18 = .ok (.aload_n 0, 1) := by decide +kernel
theorem dX7_endHire_19 : decode cX7_endHire 19 = .ok (.getfield 10, 3) := by decide +kernel
theorem dX7_endHire_22 : decode cX7_endHire 22 = .ok (.getfield 167, 3) := by decide +kernel
theorem dX7_endHire_25 : decode cX7_endHire 25 = .ok (.iload_n 1, 1) := by decide +kernel
theorem dX7_endHire_26 : decode cX7_endHire 26 = .ok (.aload_n 0, 1) := by decide +kernel
theorem dX7_endHire_27 : decode cX7_endHire 27 = .ok (.getfield 10, 3) := by decide +kernel
theorem dX7_endHire_30 : decode cX7_endHire 30 = .ok (.getfield 158, 3) := by decide +kernel
theorem dX7_endHire_33 : decode cX7_endHire 33 = .ok (.invokevirtual 184, 3) := by decide +kernel
theorem dX7_endHire_36 : decode cX7_endHire 36 = .ok (.ifCond .ne 7, 3) := by decide +kernel
theorem dX7_endHire_39 : decode cX7_endHire 39 = .ok (.sipush (-2002), 3) := by decide +kernel
theorem dX7_endHire_42 : decode cX7_endHire 42 = .ok (.ireturn, 1) := by decide +kernel
theorem dX7_endHire_43 : decode cX7_endHire 43 = .ok (.aload_n 0, 1) := by decide +kernel
theorem dX7_endHire_44 : decode cX7_endHire 44 = .ok (.getfield 19, 3) := by decide +kernel
theorem dX7_endHire_47 : decode cX7_endHire 47 = .ok (.aload_n 0, 1) := by decide +kernel
theorem dX7_endHire_48 : decode cX7_endHire 48 = .ok (.getfield 10, 3) := by decide +kernel
theorem dX7_endHire_51 : decode cX7_endHire 51 = .ok (.invokevirtual 56, 3) := by decide +kernel
theorem dX7_endHire_54 : decode cX7_endHire 54 = .ok (.aload_n 0, 1) := by decide +kernel
theorem dX7_endHire_55 : decode cX7_endHire 55 = .ok (.getfield 10, 3) := by decide +kernel
theorem dX7_endHire_58 : decode cX7_endHire 58 = .ok (.getfield 167, 3) := by decide +kernel
theorem dX7_endHire_61 : decode cX7_endHire 61 = .ok (.iload_n 1, 1) := by decide +kernel
theorem dX7_endHire_62 : decode cX7_endHire 62 = .ok (.aload_n 0, 1) := by decide +kernel
theorem dX7_endHire_63 : decode cX7_endHire 63 = .ok (.getfield 10, 3) := by decide +kernel
theorem dX7_endHire_66 : decode cX7_endHire 66 = .ok (.getfield 158, 3) := by decide +kernel
theorem dX7_endHire_69 : decode cX7_endHire 69 = .ok (.invokevirtual 187, 3) := by decide +kernel
theorem dX7_endHire_72 : decode cX7_endHire 72 = .ok (.istore_n 2, 1) := by decide +kernel
theorem dX7_endHire_73 : decode cX7_endHire 73 = .ok (.aload_n 0, 1) := by decide +kernel
theorem dX7_endHire_74 : decode cX7_endHire 74 = .ok (.getfield 10, 3) := by decide +kernel
theorem dX7_endHire_77 : decode cX7_endHire 77 = .ok (.dup, 1) := by decide +kernel
theorem dX7_endHire_78 : decode cX7_endHire 78 = .ok (.getfield 180, 3) := by decide +kernel
theorem dX7_endHire_81 : decode cX7_endHire 81 = .ok (.iload_n 2, 1) := by decide +kernel
theorem dX7_endHire_82 : decode cX7_endHire 82 = .ok (.isub, 1) := by decide +kernel
theorem dX7_endHire_83 : decode cX7_endHire 83 = .ok (.putfield 180, 3) := by decide +kernel
theorem dX7_endHire_86 : decode cX7_endHire 86 = .ok (.iload_n 2, 1) := by decide +kernel
theorem dX7_endHire_87 : decode cX7_endHire 87 = .ok (.ireturn, 1) := by decide +kernel
theorem dX7_wash_0 : decode cX7_wash 0 = .ok (.iload_n 1, 1) := by decide +kernel
theorem dX7_wash_1 : decode cX7_wash 1 = .ok (.invokestatic 190, 3) := by decide +kernel
theorem dX7_wash_4 : decode cX7_wash 4 = .ok (.ifCond .eq 15, 3) := by decide +kernel
theorem dX7_wash_7 : decode cX7_wash 7 = .ok (.iload_n 2, 1) := by decide +kernel
theorem dX7_wash_8 : decode cX7_wash 8 = .ok (.ifCond .eq 11, 3) := by decide +kernel
theorem dX7_wash_11 : decode cX7_wash 11 = .ok (.aload_n 0, 1) := by decide +kernel
theorem dX7_wash_12 : decode cX7_wash 12 = .ok (.iload_n 2, 1) := by decide +kernel
theorem dX7_wash_13 : decode cX7_wash 13 = .ok (.invokevirtual 193, 3) := by decide +kernel
theorem dX7_wash_16 : decode cX7_wash 16 = .ok (.ifCond .ne 7, 3) := by decide +kernel
theorem dX7_wash_19 : decode cX7_wash 19 = .ok (.sipush (-2001), 3) := by decide +kernel
theorem dX7_wash_22 : decode cX7_wash 22 = .ok (.ireturn, 1) := by decide +kernel
theorem dX7_wash_23 : decode cX7_wash 23 = .ok (.aload_n 0, 1) := by decide +kernel
theorem dX7_wash_24 : decode cX7_wash 24 = .ok (.getfield 10, 3) := by decide +kernel
theorem dX7_wash_27 : decode cX7_wash 27 = .ok (.iload_n 1, 1) := by decide +kernel
theorem dX7_wash_28 : decode cX7_wash 28 = .ok (.iload_n 2, 1) := by decide +kernel
theorem dX7_wash_29 : decode cX7_wash 29 = .ok (.invokevirtual 196, 3) := by decide +kernel
theorem dX7_wash_32 : decode cX7_wash 32 = .ok (.ifCond .ne 7, 3) := by decide +kernel
theorem dX7_wash_35 : decode cX7_wash 35 = .ok (.sipush (-2002), 3) := by decide +kernel
theorem dX7_wash_38 : decode cX7_wash 38 = .ok (.ireturn, 1) := by decide +kernel
theorem dX7_wash_39 : decode cX7_wash 39 = .ok (.aload_n 0, 1) := by decide +kernel
theorem dX7_wash_40 : decode cX7_wash 40 = .ok (.getfield 19, 3) := by decide +kernel
theorem dX7_wash_43 : decode cX7_wash 43 = .ok (.aload_n 0, 1) := by decide +kernel
theorem dX7_wash_44 : decode cX7_wash 44 = .ok (.getfield 10, 3) := by decide +kernel
theorem dX7_wash_47 : decode cX7_wash 47 = .ok (.invokevirtual 56, 3) := by decide +kernel
theorem dX7_wash_50 : decode cX7_wash 50 = .ok (.aload_n 0, 1) := by decide +kernel
theorem dX7_wash_51 : decode cX7_wash 51 = .ok (.getfield 10, 3) := by decide +kernel
theorem dX7_wash_54 : decode cX7_wash 54 = .ok (.dup, 1) := by decide +kernel
theorem dX7_wash_55 : decode cX7_wash 55 = .ok (.getfield 199, 3) := by decide +kernel
theorem dX7_wash_58 : decode cX7_wash 58 = .ok (.getstatic 202, 3) := by decide +kernel
theorem dX7_wash_61 : decode cX7_wash 61 = .ok (.iload_n 1, 1) := by decide +kernel
theorem dX7_wash_62 : decode cX7_wash 62 = .ok (.invokestatic 72, 3) := by decide +kernel
theorem dX7_wash_65 : decode cX7_wash 65 = .ok (.iadd, 1) := by decide +kernel
theorem dX7_wash_66 : decode cX7_wash 66 = .ok (.putfield 199, 3) := by decide +kernel
theorem dX7_wash_69 : decode cX7_wash 69 = .ok (.aload_n 0, 1) := by decide +kernel
theorem dX7_wash_70 : decode cX7_wash 70 = .ok (.getfield 10, 3) := by decide +kernel
theorem dX7_wash_73 : decode cX7_wash 73 = .ok (.getfield 46, 3) := by decide +kernel
theorem dX7_wash_76 : decode cX7_wash 76 = .ok (.iload_n 2, 1) := by decide +kernel
theorem dX7_wash_77 : decode cX7_wash 77 = .ok (.getstatic 205, 3) := by decide +kernel
theorem dX7_wash_80 : decode cX7_wash 80 = .ok (.iload_n 1, 1) := by decide +kernel
theorem dX7_wash_81 : decode cX7_wash 81 = .ok (.invokestatic 72, 3) := by decide +kernel
theorem dX7_wash_84 : decode cX7_wash 84 = .ok (.invokevirtual 208, 3) := by decide +kernel
theorem dX7_wash_87 : decode cX7_wash 87 = .ok (.ireturn, 1) := by decide +kernel
theorem dX7_undo_0 : decode cX7_undo 0 = .ok (.aload_n 0, 1) := by decide +kernel
theorem dX7_undo_1 : decode cX7_undo 1 = .ok (.getfield 19, 3) := by decide +kernel
theorem dX7_undo_4 : decode cX7_undo 4 = .ok (.getfield 211, 3) := by decide +kernel
theorem dX7_undo_7 : decode cX7_undo 7 = .ok (.ifCond .gt 7, 3) := by decide +kernel
theorem dX7_undo_10 : decode cX7_undo 10 = .ok (.sipush (-2002), 3) := by decide +kernel
theorem dX7_undo_13 : decode cX7_undo 13 = .ok (.ireturn, 1) := by decide +kernel
theorem dX7_undo_14 : decode cX7_undo 14 = .ok (.aload_n 0, 1) := by decide +kernel
theorem dX7_undo_15 : decode cX7_undo 15 = .ok (.getfield 19, 3) := by decide +kernel
theorem dX7_undo_18 : decode cX7_undo 18 = .ok (.aload_n 0, 1) := by decide +kernel
theorem dX7_undo_19 : decode cX7_undo 19 = .ok (.getfield 10, 3) := by decide +kernel
theorem dX7_undo_22 : decode cX7_undo 22 = .ok (.invokevirtual 212, 3) := by decide +kernel
theorem dX7_undo_25 : decode cX7_undo 25 = .ok (.aload_n 0, 1) := by decide +kernel
theorem dX7_undo_26 : decode cX7_undo 26 = .ok (.getfield 19, 3) := by decide +kernel
theorem dX7_undo_29 : decode cX7_undo 29 = .ok (.getfield 211, 3) := by decide +kernel
theorem dX7_undo_32 : decode cX7_undo 32 = .ok (.ireturn, 1) := by decide +kernel
theorem dX7_count_0 : decode cX7_count 0 = .ok (.iload_n 1, 1) := by decide +kernel
theorem dX7_count_1 : decode cX7_count 1 = .ok (.tableswitch 171 0 11 #[63, 74, 85, 96, 104, 115, 123, 131, 139, 147, 155, 163], 63) := by decide +kernel
theorem dX7_count_64 : decode cX7_count 64 = .ok (.aload_n 0, 1) := by decide +kernel
theorem dX7_count_65 : decode cX7_count 65 = .ok (.getfield 10, 3) := by decide +kernel
theorem dX7_count_68 : decode cX7_count 68 = .ok (.getfield 46, 3) := by decide +kernel
theorem dX7_count_71 : decode cX7_count 71 = .ok (.getfield 50, 3) := by decide +kernel
theorem dX7_count_74 : decode cX7_count 74 = .ok (.ireturn, 1) := by decide +kernel
theorem dX7_count_75 : decode cX7_count 75 = .ok (.aload_n 0, 1) := by decide +kernel
theorem dX7_count_76 : decode cX7_count 76 = .ok (.getfield 10, 3) := by decide +kernel
theorem dX7_count_79 : decode cX7_count 79 = .ok (.getfield 80, 3) := by decide +kernel
theorem dX7_count_82 : decode cX7_count 82 = .ok (.getfield 84, 3) := by decide +kernel
theorem dX7_count_85 : decode cX7_count 85 = .ok (.ireturn, 1) := by decide +kernel
theorem dX7_count_86 : decode cX7_count 86 = .ok (.aload_n 0, 1) := by decide +kernel
theorem dX7_count_87 : decode cX7_count 87 = .ok (.getfield 10, 3) := by decide +kernel
theorem dX7_count_90 : decode cX7_count 90 = .ok (.getfield 167, 3) := by decide +kernel
theorem dX7_count_93 : decode cX7_count 93 = .ok (.getfield 176, 3) := by decide +kernel
theorem dX7_count_96 : decode cX7_count 96 = .ok (.ireturn, 1) := by decide +kernel
theorem dX7_count_97 : decode cX7_count 97 = .ok (.aload_n 0, 1) := by decide +kernel
theorem dX7_count_98 : decode cX7_count 98 = .ok (.getfield 10, 3) := by decide +kernel
theorem dX7_count_101 : decode cX7_count 101 = .ok (.getfield 158, 3) := by decide +kernel
theorem dX7_count_104 : decode cX7_count 104 = .ok (.ireturn, 1) := by decide +kernel
theorem dX7_count_105 : decode cX7_count 105 = .ok (.aload_n 0, 1) := by decide +kernel
theorem dX7_count_106 : decode cX7_count 106 = .ok (.getfield 10, 3) := by decide +kernel
theorem dX7_count_109 : decode cX7_count 109 = .ok (.getfield 80, 3) := by decide +kernel
theorem dX7_count_112 : decode cX7_count 112 = .ok (.invokevirtual 215, 3) := by decide +kernel
theorem dX7_count_115 : decode cX7_count 115 = .ok (.ireturn, 1) := by decide +kernel
theorem dX7_count_116 : decode cX7_count 116 = .ok (.aload_n 0, 1) := by decide +kernel
theorem dX7_count_117 : decode cX7_count 117 = .ok (.getfield 10, 3) := by decide +kernel
theorem dX7_count_120 : decode cX7_count 120 = .ok (.getfield 116, 3) := by decide +kernel
theorem dX7_count_123 : decode cX7_count 123 = .ok (.ireturn, 1) := by decide +kernel
theorem dX7_count_124 : decode cX7_count 124 = .ok (.aload_n 0, 1) := by decide +kernel
theorem dX7_count_125 : decode cX7_count 125 = .ok (.getfield 10, 3) := by decide +kernel
theorem dX7_count_128 : decode cX7_count 128 = .ok (.getfield 180, 3) := by decide +kernel
theorem dX7_count_131 : decode cX7_count 131 = .ok (.ireturn, 1) := by decide +kernel
theorem dX7_count_132 : decode cX7_count 132 = .ok (.aload_n 0, 1) := by decide +kernel
theorem dX7_count_133 : decode cX7_count 133 = .ok (.getfield 10, 3) := by decide +kernel
theorem dX7_count_136 : decode cX7_count 136 = .ok (.getfield 199, 3) := by decide +kernel
theorem dX7_count_139 : decode cX7_count 139 = .ok (.ireturn, 1) := by decide +kernel
theorem dX7_count_140 : decode cX7_count 140 = .ok (.aload_n 0, 1) := by decide +kernel
theorem dX7_count_141 : decode cX7_count 141 = .ok (.getfield 10, 3) := by decide +kernel
theorem dX7_count_144 : decode cX7_count 144 = .ok (.invokevirtual 218, 3) := by decide +kernel
theorem dX7_count_147 : decode cX7_count 147 = .ok (.ireturn, 1) := by decide +kernel
theorem dX7_count_148 : decode cX7_count 148 = .ok (.aload_n 0, 1) := by decide +kernel
theorem dX7_count_149 : decode cX7_count 149 = .ok (.getfield 10, 3) := by decide +kernel
theorem dX7_count_152 : decode cX7_count 152 = .ok (.getfield 164, 3) := by decide +kernel
theorem dX7_count_155 : decode cX7_count 155 = .ok (.ireturn, 1) := by decide +kernel
theorem dX7_count_156 : decode cX7_count 156 = .ok (.aload_n 0, 1) := by decide +kernel
theorem dX7_count_157 : decode cX7_count 157 = .ok (.getfield 19, 3) := by decide +kernel
theorem dX7_count_160 : decode cX7_count 160 = .ok (.getfield 211, 3) := by decide +kernel
theorem dX7_count_163 : decode cX7_count 163 = .ok (.ireturn, 1) := by decide +kernel
theorem dX7_count_164 : decode cX7_count 164 = .ok (.aload_n 0, 1) := by decide +kernel
theorem dX7_count_165 : decode cX7_count 165 = .ok (.getfield 26, 3) := by decide +kernel
theorem dX7_count_168 : decode cX7_count 168 = .ok (.getfield 125, 3) := by decide +kernel
theorem dX7_count_171 : decode cX7_count 171 = .ok (.ireturn, 1) := by decide +kernel
theorem dX7_count_172 : decode cX7_count 172 = .ok (.iload_n 1, 1) := by decide +kernel
theorem dX7_count_173 : decode cX7_count 173 = .ok (.bipush 12, 2) := by decide +kernel
theorem dX7_count_175 : decode cX7_count 175 = .ok (.bipush 15, 2) := by decide +kernel
theorem dX7_count_177 : decode cX7_count 177 = .ok (.invokestatic 43, 3) := by decide +kernel
theorem dX7_count_180 : decode cX7_count 180 = .ok (.ifCond .eq 20, 3) := by decide +kernel
theorem dX7_count_183 : decode cX7_count 183 = .ok (.aload_n 0, 1) := by decide +kernel
theorem dX7_count_184 : decode cX7_count 184 = .ok (.getfield 10, 3) := by decide +kernel
theorem dX7_count_187 : decode cX7_count 187 = .ok (.getfield 94, 3) := by decide +kernel
theorem dX7_count_190 : decode cX7_count 190 = .ok (.iload_n 1, 1) := by decide +kernel
theorem dX7_count_191 : decode cX7_count 191 = .ok (.bipush 12, 2) := by decide +kernel
theorem dX7_count_193 : decode cX7_count 193 = .ok (.isub, 1) := by decide +kernel
theorem dX7_count_194 : decode cX7_count 194 = .ok (.invokestatic 72, 3) := by decide +kernel
theorem dX7_count_197 : decode cX7_count 197 = .ok (.goto 6, 3) := by decide +kernel
theorem dX7_count_200 : decode cX7_count 200 = .ok (.sipush (-2001), 3) := by decide +kernel
theorem dX7_count_203 : decode cX7_count 203 = .ok (.ireturn, 1) := by decide +kernel
theorem dX7_costume_0 : decode cX7_costume 0 = .ok (.aload_n 0, 1) := by decide +kernel
theorem dX7_costume_1 : decode cX7_costume 1 = .ok (.getfield 10, 3) := by decide +kernel
theorem dX7_costume_4 : decode cX7_costume 4 = .ok (.getfield 46, 3) := by decide +kernel
theorem dX7_costume_7 : decode cX7_costume 7 = .ok (.iload_n 1, 1) := by decide +kernel
theorem dX7_costume_8 : decode cX7_costume 8 = .ok (.invokevirtual 64, 3) := by decide +kernel
theorem dX7_costume_11 : decode cX7_costume 11 = .ok (.ifCond .ne 7, 3) := by decide +kernel
theorem dX7_costume_14 : decode cX7_costume 14 = .ok (.sipush (-2001), 3) := by decide +kernel
theorem dX7_costume_17 : decode cX7_costume 17 = .ok (.ireturn, 1) := by decide +kernel
theorem dX7_costume_18 : decode cX7_costume 18 = .ok (.iload_n 2, 1) := by decide +kernel
theorem dX7_costume_19 : decode cX7_costume 19 = .ok (.tableswitch 192 0 12 #[65, 65, 65, 78, 78, 78, 93, 108, 123, 138, 153, 168, 180], 65) := by decide +kernel
theorem dX7_costume_84 : decode cX7_costume 84 = .ok (.aload_n 0, 1) := by decide +kernel
theorem dX7_costume_85 : decode cX7_costume 85 = .ok (.getfield 10, 3) := by decide +kernel
theorem dX7_costume_88 : decode cX7_costume 88 = .ok (.getfield 46, 3) := by decide +kernel
theorem dX7_costume_91 : decode cX7_costume 91 = .ok (.iload_n 1, 1) := by decide +kernel
theorem dX7_costume_92 : decode cX7_costume 92 = .ok (.iload_n 2, 1) := by decide +kernel
theorem dX7_costume_93 : decode cX7_costume 93 = .ok (.invokevirtual 221, 3) := by decide +kernel
theorem dX7_costume_96 : decode cX7_costume 96 = .ok (.ireturn, 1) := by decide +kernel
theorem dX7_costume_97 : decode cX7_costume 97 = .ok (.aload_n 0, 1) := by decide +kernel
theorem dX7_costume_98 : decode cX7_costume 98 = .ok (.getfield 10, 3) := by decide +kernel
theorem dX7_costume_101 : decode cX7_costume 101 = .ok (.getfield 46, 3) := by decide +kernel
theorem dX7_costume_104 : decode cX7_costume 104 = .ok (.iload_n 1, 1) := by decide +kernel
theorem dX7_costume_105 : decode cX7_costume 105 = .ok (.iload_n 2, 1) := by decide +kernel
theorem dX7_costume_106 : decode cX7_costume 106 = .ok (.iconst 3, 1) := by decide +kernel
theorem dX7_costume_107 : decode cX7_costume 107 = .ok (.isub, 1) := by decide +kernel
theorem dX7_costume_108 : decode cX7_costume 108 = .ok (.invokevirtual 224, 3) := by decide +kernel
theorem dX7_costume_111 : decode cX7_costume 111 = .ok (.ireturn, 1) := by decide +kernel
theorem dX7_costume_112 : decode cX7_costume 112 = .ok (.aload_n 0, 1) := by decide +kernel
theorem dX7_costume_113 : decode cX7_costume 113 = .ok (.getfield 10, 3) := by decide +kernel
theorem dX7_costume_116 : decode cX7_costume 116 = .ok (.getfield 46, 3) := by decide +kernel
theorem dX7_costume_119 : decode cX7_costume 119 = .ok (.getfield 227, 3) := by decide +kernel
theorem dX7_costume_122 : decode cX7_costume 122 = .ok (.iload_n 1, 1) := by decide +kernel
theorem dX7_costume_123 : decode cX7_costume 123 = .ok (.invokestatic 72, 3) := by decide +kernel
theorem dX7_costume_126 : decode cX7_costume 126 = .ok (.ireturn, 1) := by decide +kernel
theorem dX7_costume_127 : decode cX7_costume 127 = .ok (.aload_n 0, 1) := by decide +kernel
theorem dX7_costume_128 : decode cX7_costume 128 = .ok (.getfield 10, 3) := by decide +kernel
theorem dX7_costume_131 : decode cX7_costume 131 = .ok (.getfield 46, 3) := by decide +kernel
theorem dX7_costume_134 : decode cX7_costume 134 = .ok (.getfield 230, 3) := by decide +kernel
theorem dX7_costume_137 : decode cX7_costume 137 = .ok (.iload_n 1, 1) := by decide +kernel
theorem dX7_costume_138 : decode cX7_costume 138 = .ok (.invokestatic 72, 3) := by decide +kernel
theorem dX7_costume_141 : decode cX7_costume 141 = .ok (.ireturn, 1) := by decide +kernel
theorem dX7_costume_142 : decode cX7_costume 142 = .ok (.aload_n 0, 1) := by decide +kernel
theorem dX7_costume_143 : decode cX7_costume 143 = .ok (.getfield 10, 3) := by decide +kernel
theorem dX7_costume_146 : decode cX7_costume 146 = .ok (.getfield 46, 3) := by decide +kernel
theorem dX7_costume_149 : decode cX7_costume 149 = .ok (.getfield 68, 3) := by decide +kernel
theorem dX7_costume_152 : decode cX7_costume 152 = .ok (.iload_n 1, 1) := by decide +kernel
theorem dX7_costume_153 : decode cX7_costume 153 = .ok (.invokestatic 72, 3) := by decide +kernel
theorem dX7_costume_156 : decode cX7_costume 156 = .ok (.ireturn, 1) := by decide +kernel
theorem dX7_costume_157 : decode cX7_costume 157 = .ok (.aload_n 0, 1) := by decide +kernel
theorem dX7_costume_158 : decode cX7_costume 158 = .ok (.getfield 10, 3) := by decide +kernel
theorem dX7_costume_161 : decode cX7_costume 161 = .ok (.getfield 46, 3) := by decide +kernel
theorem dX7_costume_164 : decode cX7_costume 164 = .ok (.getfield 233, 3) := by decide +kernel
theorem dX7_costume_167 : decode cX7_costume 167 = .ok (.iload_n 1, 1) := by decide +kernel
theorem dX7_costume_168 : decode cX7_costume 168 = .ok (.invokestatic 72, 3) := by decide +kernel
theorem dX7_costume_171 : decode cX7_costume 171 = .ok (.ireturn, 1) := by decide +kernel
theorem dX7_costume_172 : decode cX7_costume 172 = .ok (.aload_n 0, 1) := by decide +kernel
theorem dX7_costume_173 : decode cX7_costume 173 = .ok (.getfield 10, 3) := by decide +kernel
theorem dX7_costume_176 : decode cX7_costume 176 = .ok (.getfield 46, 3) := by decide +kernel
theorem dX7_costume_179 : decode cX7_costume 179 = .ok (.getfield 119, 3) := by decide +kernel
theorem dX7_costume_182 : decode cX7_costume 182 = .ok (.iload_n 1, 1) := by decide +kernel
theorem dX7_costume_183 : decode cX7_costume 183 = .ok (.invokestatic 72, 3) := by decide +kernel
theorem dX7_costume_186 : decode cX7_costume 186 = .ok (.ireturn, 1) := by decide +kernel
theorem dX7_costume_187 : decode cX7_costume 187 = .ok (.aload_n 0, 1) := by decide +kernel
theorem dX7_costume_188 : decode cX7_costume 188 = .ok (.getfield 10, 3) := by decide +kernel
theorem dX7_costume_191 : decode cX7_costume 191 = .ok (.getfield 80, 3) := by decide +kernel
theorem dX7_costume_194 : decode cX7_costume 194 = .ok (.iload_n 1, 1) := by decide +kernel
theorem dX7_costume_195 : decode cX7_costume 195 = .ok (.invokevirtual 236, 3) := by decide +kernel
theorem dX7_costume_198 : decode cX7_costume 198 = .ok (.ireturn, 1) := by decide +kernel
theorem dX7_costume_199 : decode cX7_costume 199 = .ok (.aload_n 0, 1) := by decide +kernel
theorem dX7_costume_200 : decode cX7_costume 200 = .ok (.getfield 10, 3) := by decide +kernel
theorem dX7_costume_203 : decode cX7_costume 203 = .ok (.getfield 167, 3) := by decide +kernel
theorem dX7_costume_206 : decode cX7_costume 206 = .ok (.iload_n 1, 1) := by decide +kernel
theorem dX7_costume_207 : decode cX7_costume 207 = .ok (.invokevirtual 239, 3) := by decide +kernel
theorem dX7_costume_210 : decode cX7_costume 210 = .ok (.ireturn, 1) := by decide +kernel
theorem dX7_costume_211 : decode cX7_costume 211 = .ok (.sipush (-2001), 3) := by decide +kernel
theorem dX7_costume_214 : decode cX7_costume 214 = .ok (.ireturn, 1) := by decide +kernel
theorem dX7_alteration_0 : decode cX7_alteration 0 = .ok (.aload_n 0, 1) := by decide +kernel
theorem dX7_alteration_1 : decode cX7_alteration 1 = .ok (.getfield 10, 3) := by decide +kernel
theorem dX7_alteration_4 : decode cX7_alteration 4 = .ok (.getfield 46, 3) := by decide +kernel
theorem dX7_alteration_7 : decode cX7_alteration 7 = .ok (.iload_n 1, 1) := by decide +kernel
theorem dX7_alteration_8 : decode cX7_alteration 8 = .ok (.invokevirtual 64, 3) := by decide +kernel
theorem dX7_alteration_11 : decode cX7_alteration 11 = .ok (.ifCond .eq 16, 3) := by decide +kernel
theorem dX7_alteration_14 : decode cX7_alteration 14 = .ok (.iload_n 2, 1) := by decide +kernel
theorem dX7_alteration_15 : decode cX7_alteration 15 = .ok (.ifCond .lt 12, 3) := by decide +kernel
theorem dX7_alteration_18 : decode cX7_alteration 18 = .ok (.iload_n 3, 1) := by decide +kernel
theorem dX7_alteration_19 : decode cX7_alteration 19 = .ok (.iconst 0, 1) := by decide +kernel
theorem dX7_alteration_20 : decode cX7_alteration 20 = .ok (.iconst 1, 1) := by decide +kernel
theorem dX7_alteration_21 : decode cX7_alteration 21 = .ok (.invokestatic 43, 3) := by decide +kernel
theorem dX7_alteration_24 : decode cX7_alteration 24 = .ok (.ifCond .ne 7, 3) := by decide +kernel
theorem dX7_alteration_27 : decode cX7_alteration 27 = .ok (.sipush (-2001), 3) := by decide +kernel
theorem dX7_alteration_30 : decode cX7_alteration 30 = .ok (.ireturn, 1) := by decide +kernel
theorem dX7_alteration_31 : decode cX7_alteration 31 = .ok (.iload_n 2, 1) := by decide +kernel
theorem dX7_alteration_32 : decode cX7_alteration 32 = .ok (.aload_n 0, 1) := by decide +kernel
theorem dX7_alteration_33 : decode cX7_alteration 33 = .ok (.getfield 10, 3) := by decide +kernel
theorem dX7_alteration_36 : decode cX7_alteration 36 = .ok (.getfield 46, 3) := by decide +kernel
theorem dX7_alteration_39 : decode cX7_alteration 39 = .ok (.getfield 119, 3) := by decide +kernel
theorem dX7_alteration_42 : decode cX7_alteration 42 = .ok (.iload_n 1, 1) := by decide +kernel
theorem dX7_alteration_43 : decode cX7_alteration 43 = .ok (.invokestatic 72, 3) := by decide +kernel
theorem dX7_alteration_46 : decode cX7_alteration 46 = .ok (.if_icmp .lt 7, 3) := by decide +kernel
theorem dX7_alteration_49 : decode cX7_alteration 49 = .ok (.sipush (-2009), 3) := by decide +kernel
theorem dX7_alteration_52 : decode cX7_alteration 52 = .ok (.ireturn, 1) := by decide +kernel
theorem dX7_alteration_53 : decode cX7_alteration 53 = .ok (.aload_n 0, 1) := by decide +kernel
theorem dX7_alteration_54 : decode cX7_alteration 54 = .ok (.getfield 10, 3) := by decide +kernel
theorem dX7_alteration_57 : decode cX7_alteration 57 = .ok (.getfield 46, 3) := by decide +kernel
theorem dX7_alteration_60 : decode cX7_alteration 60 = .ok (.iload_n 1, 1) := by decide +kernel
theorem dX7_alteration_61 : decode cX7_alteration 61 = .ok (.iload_n 2, 1) := by decide +kernel
theorem dX7_alteration_62 : decode cX7_alteration 62 = .ok (.invokevirtual 242, 3) := by decide +kernel
theorem dX7_alteration_65 : decode cX7_alteration 65 = .ok (.istore 4, 2) := by decide +kernel
theorem dX7_alteration_67 : decode cX7_alteration 67 = .ok (.iload_n 3, 1) := by decide +kernel
theorem dX7_alteration_68 : decode cX7_alteration 68 = .ok (.ifCond .ne 16, 3) := by decide +kernel
theorem dX7_alteration_71 : decode cX7_alteration 71 = .ok (.aload_n 0, 1) := by decide +kernel
theorem dX7_alteration_72 : decode cX7_alteration 72 = .ok (.getfield 10, 3) := by decide +kernel
theorem dX7_alteration_75 : decode cX7_alteration 75 = .ok (.getfield 46, 3) := by decide +kernel
theorem dX7_alteration_78 : decode cX7_alteration 78 = .ok (.getfield 245, 3) := by decide +kernel
theorem dX7_alteration_81 : decode cX7_alteration 81 = .ok (.goto 13, 3) := by decide +kernel
theorem dX7_alteration_84 : decode cX7_alteration 84 = .ok (.aload_n 0, 1) := by decide +kernel
theorem dX7_alteration_85 : decode cX7_alteration 85 = .ok (.getfield 10, 3) := by decide +kernel
theorem dX7_alteration_88 : decode cX7_alteration 88 = .ok (.getfield 46, 3) := by decide +kernel
theorem dX7_alteration_91 : decode cX7_alteration 91 = .ok (.getfield 248, 3) := by decide +kernel
theorem dX7_alteration_94 : decode cX7_alteration 94 = .ok (.iload 4, 2) := by decide +kernel
theorem dX7_alteration_96 : decode cX7_alteration 96 = .ok (.invokestatic 72, 3) := by decide +kernel
theorem dX7_alteration_99 : decode cX7_alteration 99 = .ok (.ireturn, 1) := by decide +kernel
theorem dX7_actor_0 : decode cX7_actor 0 = .ok (.aload_n 0, 1) := by decide +kernel
theorem dX7_actor_1 : decode cX7_actor 1 = .ok (.getfield 10, 3) := by decide +kernel
theorem dX7_actor_4 : decode cX7_actor 4 = .ok (.getfield 80, 3) := by decide +kernel
theorem dX7_actor_7 : decode cX7_actor 7 = .ok (.iload_n 1, 1) := by decide +kernel
theorem dX7_actor_8 : decode cX7_actor 8 = .ok (.invokevirtual 151, 3) := by decide +kernel
theorem dX7_actor_11 : decode cX7_actor 11 = .ok (.ifCond .eq 13, 3) := by decide +kernel
theorem dX7_actor_14 : decode cX7_actor 14 = .ok (.iload_n 2, 1) := by decide +kernel
theorem dX7_actor_15 : decode cX7_actor 15 = .ok (.iconst 0, 1) := by decide +kernel
theorem dX7_actor_16 : decode cX7_actor 16 = .ok (.bipush 14, 2) := by decide +kernel
theorem dX7_actor_18 : decode cX7_actor 18 = .ok (.invokestatic 43, 3) := by decide +kernel
theorem dX7_actor_21 : decode cX7_actor 21 = .ok (.ifCond .ne 7, 3) := by decide +kernel
theorem dX7_actor_24 : decode cX7_actor 24 = .ok (.sipush (-2001), 3) := by decide +kernel
theorem dX7_actor_27 : decode cX7_actor 27 = .ok (.ireturn, 1) := by decide +kernel
theorem dX7_actor_28 : decode cX7_actor 28 = .ok (.iload_n 2, 1) := by decide +kernel
theorem dX7_actor_29 : decode cX7_actor 29 = .ok (.iconst 3, 1) := by decide +kernel
theorem dX7_actor_30 : decode cX7_actor 30 = .ok (.if_icmp .ge 16, 3) := by decide +kernel
theorem dX7_actor_33 : decode cX7_actor 33 = .ok (.aload_n 0, 1) := by decide +kernel
theorem dX7_actor_34 : decode cX7_actor 34 = .ok (.getfield 10, 3) := by decide +kernel
theorem dX7_actor_37 : decode cX7_actor 37 = .ok (.getfield 80, 3) := by decide +kernel
theorem dX7_actor_40 : decode cX7_actor 40 = .ok (.iload_n 1, 1) := by decide +kernel
theorem dX7_actor_41 : decode cX7_actor 41 = .ok (.iload_n 2, 1) := by decide +kernel
theorem dX7_actor_42 : decode cX7_actor 42 = .ok (.invokevirtual 251, 3) := by decide +kernel
theorem dX7_actor_45 : decode cX7_actor 45 = .ok (.ireturn, 1) := by decide +kernel
theorem dX7_actor_46 : decode cX7_actor 46 = .ok (.aload_n 0, 1) := by decide +kernel
theorem dX7_actor_47 : decode cX7_actor 47 = .ok (.getfield 10, 3) := by decide +kernel
theorem dX7_actor_50 : decode cX7_actor 50 = .ok (.getfield 80, 3) := by decide +kernel
theorem dX7_actor_53 : decode cX7_actor 53 = .ok (.iload_n 2, 1) := by decide +kernel
theorem dX7_actor_54 : decode cX7_actor 54 = .ok (.iconst 3, 1) := by decide +kernel
theorem dX7_actor_55 : decode cX7_actor 55 = .ok (.isub, 1) := by decide +kernel
theorem dX7_actor_56 : decode cX7_actor 56 = .ok (.iload_n 1, 1) := by decide +kernel
theorem dX7_actor_57 : decode cX7_actor 57 = .ok (.invokevirtual 254, 3) := by decide +kernel
theorem dX7_actor_60 : decode cX7_actor 60 = .ok (.ireturn, 1) := by decide +kernel
theorem dX7_hired_0 : decode cX7_hired 0 = .ok (.aload_n 0, 1) := by decide +kernel
theorem dX7_hired_1 : decode cX7_hired 1 = .ok (.getfield 10, 3) := by decide +kernel
theorem dX7_hired_4 : decode cX7_hired 4 = .ok (.getfield 167, 3) := by decide +kernel
theorem dX7_hired_7 : decode cX7_hired 7 = .ok (.iload_n 1, 1) := by decide +kernel
theorem dX7_hired_8 : decode cX7_hired 8 = .ok (.invokevirtual 183, 3) := by decide +kernel
theorem dX7_hired_11 : decode cX7_hired 11 = .ok (.ifCond .ne 7, 3) := by decide +kernel
theorem dX7_hired_14 : decode cX7_hired 14 = .ok (.sipush (-2001), 3) := by decide +kernel
theorem dX7_hired_17 : decode cX7_hired 17 = .ok (.ireturn, 1) := by decide +kernel
theorem dX7_hired_18 : decode cX7_hired 18 = .ok (.iload_n 2, 1) := by decide +kernel
theorem dX7_hired_19 : decode cX7_hired 19 = .ok (.tableswitch 89 0 3 #[29, 44, 59, 74], 29) := by decide +kernel
theorem dX7_hired_48 : decode cX7_hired 48 = .ok (.aload_n 0, 1) := by decide +kernel
theorem dX7_hired_49 : decode cX7_hired 49 = .ok (.getfield 10, 3) := by decide +kernel
theorem dX7_hired_52 : decode cX7_hired 52 = .ok (.getfield 167, 3) := by decide +kernel
theorem dX7_hired_55 : decode cX7_hired 55 = .ok (.getfield 257, 3) := by decide +kernel
theorem dX7_hired_58 : decode cX7_hired 58 = .ok (.iload_n 1, 1) := by decide +kernel
theorem dX7_hired_59 : decode cX7_hired 59 = .ok (.invokestatic 72, 3) := by decide +kernel
theorem dX7_hired_62 : decode cX7_hired 62 = .ok (.ireturn, 1) := by decide +kernel
theorem dX7_hired_63 : decode cX7_hired 63 = .ok (.aload_n 0, 1) := by decide +kernel
theorem dX7_hired_64 : decode cX7_hired 64 = .ok (.getfield 10, 3) := by decide +kernel
theorem dX7_hired_67 : decode cX7_hired 67 = .ok (.getfield 167, 3) := by decide +kernel
theorem dX7_hired_70 : decode cX7_hired 70 = .ok (.getfield 260, 3) := by decide +kernel
theorem dX7_hired_73 : decode cX7_hired 73 = .ok (.iload_n 1, 1) := by decide +kernel
theorem dX7_hired_74 : decode cX7_hired 74 = .ok (.invokestatic 72, 3) := by decide +kernel
theorem dX7_hired_77 : decode cX7_hired 77 = .ok (.ireturn, 1) := by decide +kernel
theorem dX7_hired_78 : decode cX7_hired 78 = .ok (.aload_n 0, 1) := by decide +kernel
theorem dX7_hired_79 : decode cX7_hired 79 = .ok (.getfield 10, 3) := by decide +kernel
theorem dX7_hired_82 : decode cX7_hired 82 = .ok (.getfield 167, 3) := by decide +kernel
theorem dX7_hired_85 : decode cX7_hired 85 = .ok (.getfield 263, 3) := by decide +kernel
theorem dX7_hired_88 : decode cX7_hired 88 = .ok (.iload_n 1, 1) := by decide +kernel
theorem dX7_hired_89 : decode cX7_hired 89 = .ok (.invokestatic 72, 3) := by decide +kernel
theorem dX7_hired_92 : decode cX7_hired 92 = .ok (.ireturn, 1) := by decide +kernel
theorem dX7_hired_93 : decode cX7_hired 93 = .ok (.aload_n 0, 1) := by decide +kernel
theorem dX7_hired_94 : decode cX7_hired 94 = .ok (.getfield 10, 3) := by decide +kernel
theorem dX7_hired_97 : decode cX7_hired 97 = .ok (.getfield 167, 3) := by decide +kernel
theorem dX7_hired_100 : decode cX7_hired 100 = .ok (.getfield 266, 3) := by decide +kernel
theorem dX7_hired_103 : decode cX7_hired 103 = .ok (.iload_n 1, 1) := by decide +kernel
theorem dX7_hired_104 : decode cX7_hired 104 = .ok (.invokestatic 72, 3) := by decide +kernel
theorem dX7_hired_107 : decode cX7_hired 107 = .ok (.ireturn, 1) := by decide +kernel
theorem dX7_hired_108 : decode cX7_hired 108 = .ok (.sipush (-2001), 3) := by decide +kernel
theorem dX7_hired_111 : decode cX7_hired 111 = .ok (.ireturn, 1) := by decide +kernel
theorem dX7_problems_0 : decode cX7_problems 0 = .ok (.iload_n 1, 1) := by decide +kernel
theorem dX7_problems_1 : decode cX7_problems 1 = .ok (.iconst 0, 1) := by decide +kernel
theorem dX7_problems_2 : decode cX7_problems 2 = .ok (.iconst 4, 1) := by decide +kernel
theorem dX7_problems_3 : decode cX7_problems 3 = .ok (.invokestatic 43, 3) := by decide +kernel
theorem dX7_problems_6 : decode cX7_problems 6 = .ok (.ifCond .eq 14, 3) := by decide +kernel
theorem dX7_problems_9 : decode cX7_problems 9 = .ok (.aload_n 0, 1) := by decide +kernel
theorem dX7_problems_10 : decode cX7_problems 10 = .ok (.getfield 10, 3) := by decide +kernel
theorem dX7_problems_13 : decode cX7_problems 13 = .ok (.iload_n 1, 1) := by decide +kernel
theorem dX7_problems_14 : decode cX7_problems 14 = .ok (.invokevirtual 155, 3) := by decide +kernel
theorem dX7_problems_17 : decode cX7_problems 17 = .ok (.goto 6, 3) := by decide +kernel
theorem dX7_problems_20 : decode cX7_problems 20 = .ok (.sipush (-2001), 3) := by decide +kernel
theorem dX7_problems_23 : decode cX7_problems 23 = .ok (.ireturn, 1) := by decide +kernel
theorem dX7_misfit_0 : decode cX7_misfit 0 = .ok (.aload_n 0, 1) := by decide +kernel
theorem dX7_misfit_1 : decode cX7_misfit 1 = .ok (.getfield 10, 3) := by decide +kernel
theorem dX7_misfit_4 : decode cX7_misfit 4 = .ok (.getfield 46, 3) := by decide +kernel
theorem dX7_misfit_7 : decode cX7_misfit 7 = .ok (.iload_n 1, 1) := by decide +kernel
theorem dX7_misfit_8 : decode cX7_misfit 8 = .ok (.invokevirtual 64, 3) := by decide +kernel
theorem dX7_misfit_11 : decode cX7_misfit 11 = .ok (.ifCond .eq 17, 3) := by decide +kernel
theorem dX7_misfit_14 : decode cX7_misfit 14 = .ok (.aload_n 0, 1) := by decide +kernel
theorem dX7_misfit_15 : decode cX7_misfit 15 = .ok (.getfield 10, 3) := by decide +kernel
theorem dX7_misfit_18 : decode cX7_misfit 18 = .ok (.getfield 80, 3) := by decide +kernel
theorem dX7_misfit_21 : decode cX7_misfit 21 = .ok (.iload_n 2, 1) := by decide +kernel
theorem dX7_misfit_22 : decode cX7_misfit 22 = .ok (.invokevirtual 151, 3) := by decide +kernel
theorem dX7_misfit_25 : decode cX7_misfit 25 = .ok (.ifCond .ne 7, 3) := by decide +kernel
theorem dX7_misfit_28 : decode cX7_misfit 28 = .ok (.sipush (-2001), 3) := by decide +kernel
theorem dX7_misfit_31 : decode cX7_misfit 31 = .ok (.ireturn, 1) := by decide +kernel
theorem dX7_misfit_32 : decode cX7_misfit 32 = .ok (.aload_n 0, 1) := by decide +kernel
theorem dX7_misfit_33 : decode cX7_misfit 33 = .ok (.getfield 10, 3) := by decide +kernel
theorem dX7_misfit_36 : decode cX7_misfit 36 = .ok (.iload_n 1, 1) := by decide +kernel
theorem dX7_misfit_37 : decode cX7_misfit 37 = .ok (.iload_n 2, 1) := by decide +kernel
theorem dX7_misfit_38 : decode cX7_misfit 38 = .ok (.invokevirtual 269, 3) := by decide +kernel
theorem dX7_misfit_41 : decode cX7_misfit 41 = .ok (.ireturn, 1) := by decide +kernel
theorem dX7_leastAlteration_0 : decode cX7_leastAlteration 0 = .ok (.aload_n 0, 1) := by decide +kernel
theorem dX7_leastAlteration_1 : decode cX7_leastAlteration 1 = .ok (.getfield 10, 3) := by decide +kernel
theorem dX7_leastAlteration_4 : decode cX7_leastAlteration 4 = .ok (.getfield 46, 3) := by decide +kernel
theorem dX7_leastAlteration_7 : decode cX7_leastAlteration 7 = .ok (.iload_n 1, 1) := by decide +kernel
theorem dX7_leastAlteration_8 : decode cX7_leastAlteration 8 = .ok (.invokevirtual 64, 3) := by decide +kernel
theorem dX7_leastAlteration_11 : decode cX7_leastAlteration 11 = .ok (.ifCond .eq 17, 3) := by decide +kernel
theorem dX7_leastAlteration_14 : decode cX7_leastAlteration 14 = .ok (.aload_n 0, 1) := by decide +kernel
theorem dX7_leastAlteration_15 : decode cX7_leastAlteration 15 = .ok (.getfield 10, 3) := by decide +kernel
theorem dX7_leastAlteration_18 : decode cX7_leastAlteration 18 = .ok (.getfield 80, 3) := by decide +kernel
theorem dX7_leastAlteration_21 : decode cX7_leastAlteration 21 = .ok (.iload_n 2, 1) := by decide +kernel
theorem dX7_leastAlteration_22 : decode cX7_leastAlteration 22 = .ok (.invokevirtual 151, 3) := by decide +kernel
theorem dX7_leastAlteration_25 : decode cX7_leastAlteration 25 = .ok (.ifCond .ne 7, 3) := by decide +kernel
theorem dX7_leastAlteration_28 : decode cX7_leastAlteration 28 = .ok (.sipush (-2001), 3) := by decide +kernel
theorem dX7_leastAlteration_31 : decode cX7_leastAlteration 31 = .ok (.ireturn, 1) := by decide +kernel
theorem dX7_leastAlteration_32 : decode cX7_leastAlteration 32 = .ok (.aload_n 0, 1) := by decide +kernel
theorem dX7_leastAlteration_33 : decode cX7_leastAlteration 33 = .ok (.getfield 10, 3) := by decide +kernel
theorem dX7_leastAlteration_36 : decode cX7_leastAlteration 36 = .ok (.iload_n 1, 1) := by decide +kernel
theorem dX7_leastAlteration_37 : decode cX7_leastAlteration 37 = .ok (.iload_n 2, 1) := by decide +kernel
theorem dX7_leastAlteration_38 : decode cX7_leastAlteration 38 = .ok (.invokevirtual 272, 3) := by decide +kernel
theorem dX7_leastAlteration_41 : decode cX7_leastAlteration 41 = .ok (.ireturn, 1) := by decide +kernel
theorem dX7_costumeFor_0 : decode cX7_costumeFor 0 = .ok (.iload_n 1, 1) := by decide +kernel
theorem dX7_costumeFor_1 : decode cX7_costumeFor 1 = .ok (.iconst 0, 1) := by decide +kernel
theorem dX7_costumeFor_2 : decode cX7_costumeFor 2 = .ok (.bipush 11, 2) := by decide +kernel
theorem dX7_costumeFor_4 : decode cX7_costumeFor 4 = .ok (.invokestatic 43, 3) := by decide +kernel
theorem dX7_costumeFor_7 : decode cX7_costumeFor 7 = .ok (.ifCond .eq 17, 3) := by decide +kernel
theorem dX7_costumeFor_10 : decode cX7_costumeFor 10 = .ok (.aload_n 0, 1) := by decide +kernel
theorem dX7_costumeFor_11 : decode cX7_costumeFor 11 = .ok (.getfield 10, 3) := by decide +kernel
theorem dX7_costumeFor_14 : decode cX7_costumeFor 14 = .ok (.getfield 80, 3) := by decide +kernel
theorem dX7_costumeFor_17 : decode cX7_costumeFor 17 = .ok (.iload_n 2, 1) := by decide +kernel
theorem dX7_costumeFor_18 : decode cX7_costumeFor 18 = .ok (.invokevirtual 151, 3) := by decide +kernel
theorem dX7_costumeFor_21 : decode cX7_costumeFor 21 = .ok (.ifCond .ne 7, 3) := by decide +kernel
theorem dX7_costumeFor_24 : decode cX7_costumeFor 24 = .ok (.sipush (-2001), 3) := by decide +kernel
theorem dX7_costumeFor_27 : decode cX7_costumeFor 27 = .ok (.ireturn, 1) := by decide +kernel
theorem dX7_costumeFor_28 : decode cX7_costumeFor 28 = .ok (.aload_n 0, 1) := by decide +kernel
theorem dX7_costumeFor_29 : decode cX7_costumeFor 29 = .ok (.getfield 10, 3) := by decide +kernel
theorem dX7_costumeFor_32 : decode cX7_costumeFor 32 = .ok (.iload_n 1, 1) := by decide +kernel
theorem dX7_costumeFor_33 : decode cX7_costumeFor 33 = .ok (.iload_n 2, 1) := by decide +kernel
theorem dX7_costumeFor_34 : decode cX7_costumeFor 34 = .ok (.invokevirtual 275, 3) := by decide +kernel
theorem dX7_costumeFor_37 : decode cX7_costumeFor 37 = .ok (.ireturn, 1) := by decide +kernel
theorem dX7_freeFrom_0 : decode cX7_freeFrom 0 = .ok (.aload_n 0, 1) := by decide +kernel
theorem dX7_freeFrom_1 : decode cX7_freeFrom 1 = .ok (.getfield 10, 3) := by decide +kernel
theorem dX7_freeFrom_4 : decode cX7_freeFrom 4 = .ok (.getfield 46, 3) := by decide +kernel
theorem dX7_freeFrom_7 : decode cX7_freeFrom 7 = .ok (.iload_n 1, 1) := by decide +kernel
theorem dX7_freeFrom_8 : decode cX7_freeFrom 8 = .ok (.invokevirtual 64, 3) := by decide +kernel
theorem dX7_freeFrom_11 : decode cX7_freeFrom 11 = .ok (.ifCond .eq 13, 3) := by decide +kernel
theorem dX7_freeFrom_14 : decode cX7_freeFrom 14 = .ok (.iload_n 2, 1) := by decide +kernel
theorem dX7_freeFrom_15 : decode cX7_freeFrom 15 = .ok (.iconst 1, 1) := by decide +kernel
theorem dX7_freeFrom_16 : decode cX7_freeFrom 16 = .ok (.bipush 60, 2) := by decide +kernel
theorem dX7_freeFrom_18 : decode cX7_freeFrom 18 = .ok (.invokestatic 43, 3) := by decide +kernel
theorem dX7_freeFrom_21 : decode cX7_freeFrom 21 = .ok (.ifCond .ne 7, 3) := by decide +kernel
theorem dX7_freeFrom_24 : decode cX7_freeFrom 24 = .ok (.sipush (-2001), 3) := by decide +kernel
theorem dX7_freeFrom_27 : decode cX7_freeFrom 27 = .ok (.ireturn, 1) := by decide +kernel
theorem dX7_freeFrom_28 : decode cX7_freeFrom 28 = .ok (.aload_n 0, 1) := by decide +kernel
theorem dX7_freeFrom_29 : decode cX7_freeFrom 29 = .ok (.getfield 10, 3) := by decide +kernel
theorem dX7_freeFrom_32 : decode cX7_freeFrom 32 = .ok (.getfield 167, 3) := by decide +kernel
theorem dX7_freeFrom_35 : decode cX7_freeFrom 35 = .ok (.iload_n 1, 1) := by decide +kernel
theorem dX7_freeFrom_36 : decode cX7_freeFrom 36 = .ok (.aload_n 0, 1) := by decide +kernel
theorem dX7_freeFrom_37 : decode cX7_freeFrom 37 = .ok (.getfield 10, 3) := by decide +kernel
theorem dX7_freeFrom_40 : decode cX7_freeFrom 40 = .ok (.getfield 158, 3) := by decide +kernel
theorem dX7_freeFrom_43 : decode cX7_freeFrom 43 = .ok (.iload_n 2, 1) := by decide +kernel
theorem dX7_freeFrom_44 : decode cX7_freeFrom 44 = .ok (.invokevirtual 278, 3) := by decide +kernel
theorem dX7_freeFrom_47 : decode cX7_freeFrom 47 = .ok (.ireturn, 1) := by decide +kernel
theorem dX7_washable_0 : decode cX7_washable 0 = .ok (.iload_n 1, 1) := by decide +kernel
theorem dX7_washable_1 : decode cX7_washable 1 = .ok (.invokestatic 190, 3) := by decide +kernel
theorem dX7_washable_4 : decode cX7_washable 4 = .ok (.ifCond .eq 12, 3) := by decide +kernel
theorem dX7_washable_7 : decode cX7_washable 7 = .ok (.iload_n 2, 1) := by decide +kernel
theorem dX7_washable_8 : decode cX7_washable 8 = .ok (.iconst 0, 1) := by decide +kernel
theorem dX7_washable_9 : decode cX7_washable 9 = .ok (.iconst 1, 1) := by decide +kernel
theorem dX7_washable_10 : decode cX7_washable 10 = .ok (.invokestatic 43, 3) := by decide +kernel
theorem dX7_washable_13 : decode cX7_washable 13 = .ok (.ifCond .ne 7, 3) := by decide +kernel
theorem dX7_washable_16 : decode cX7_washable 16 = .ok (.sipush (-2001), 3) := by decide +kernel
theorem dX7_washable_19 : decode cX7_washable 19 = .ok (.ireturn, 1) := by decide +kernel
theorem dX7_washable_20 : decode cX7_washable 20 = .ok (.aload_n 0, 1) := by decide +kernel
theorem dX7_washable_21 : decode cX7_washable 21 = .ok (.getfield 10, 3) := by decide +kernel
theorem dX7_washable_24 : decode cX7_washable 24 = .ok (.iload_n 1, 1) := by decide +kernel
theorem dX7_washable_25 : decode cX7_washable 25 = .ok (.iload_n 2, 1) := by decide +kernel
theorem dX7_washable_26 : decode cX7_washable 26 = .ok (.invokevirtual 281, 3) := by decide +kernel
theorem dX7_washable_29 : decode cX7_washable 29 = .ok (.ireturn, 1) := by decide +kernel
theorem dX7_isWithin_0 : decode cX7_isWithin 0 = .ok (.iload_n 0, 1) := by decide +kernel
theorem dX7_isWithin_1 : decode cX7_isWithin 1 = .ok (.iload_n 1, 1) := by decide +kernel
theorem dX7_isWithin_2 : decode cX7_isWithin 2 = .ok (.if_icmp .lt 12, 3) := by decide +kernel
theorem dX7_isWithin_5 : decode cX7_isWithin 5 = .ok (.iload_n 0, 1) := by decide +kernel
theorem dX7_isWithin_6 : decode cX7_isWithin 6 = .ok (.iload_n 2, 1) := by decide +kernel
theorem dX7_isWithin_7 : decode cX7_isWithin 7 = .ok (.if_icmp .gt 7, 3) := by decide +kernel
theorem dX7_isWithin_10 : decode cX7_isWithin 10 = .ok (.iconst 1, 1) := by decide +kernel
theorem dX7_isWithin_11 : decode cX7_isWithin 11 = .ok (.goto 4, 3) := by decide +kernel
theorem dX7_isWithin_14 : decode cX7_isWithin 14 = .ok (.iconst 0, 1) := by decide +kernel
theorem dX7_isWithin_15 : decode cX7_isWithin 15 = .ok (.ireturn, 1) := by decide +kernel
theorem dX7_areMeasures_0 : decode cX7_areMeasures 0 = .ok (.iload_n 0, 1) := by decide +kernel
theorem dX7_areMeasures_1 : decode cX7_areMeasures 1 = .ok (.bipush 40, 2) := by decide +kernel
theorem dX7_areMeasures_3 : decode cX7_areMeasures 3 = .ok (.sipush 200, 3) := by decide +kernel
theorem dX7_areMeasures_6 : decode cX7_areMeasures 6 = .ok (.invokestatic 43, 3) := by decide +kernel
theorem dX7_areMeasures_9 : decode cX7_areMeasures 9 = .ok (.ifCond .eq 31, 3) := by decide +kernel
theorem dX7_areMeasures_12 : decode cX7_areMeasures 12 = .ok (.iload_n 1, 1) := by decide +kernel
theorem dX7_areMeasures_13 : decode cX7_areMeasures 13 = .ok (.bipush 40, 2) := by decide +kernel
theorem dX7_areMeasures_15 : decode cX7_areMeasures 15 = .ok (.sipush 200, 3) := by decide +kernel
theorem dX7_areMeasures_18 : decode cX7_areMeasures 18 = .ok (.invokestatic 43, 3) := by decide +kernel
theorem dX7_areMeasures_21 : decode cX7_areMeasures 21 = .ok (.ifCond .eq 19, 3) := by decide +kernel
theorem dX7_areMeasures_24 : decode cX7_areMeasures 24 = .ok (.iload_n 2, 1) := by decide +kernel
theorem dX7_areMeasures_25 : decode cX7_areMeasures 25 = .ok (.bipush 40, 2) := by decide +kernel
theorem dX7_areMeasures_27 : decode cX7_areMeasures 27 = .ok (.sipush 200, 3) := by decide +kernel
theorem dX7_areMeasures_30 : decode cX7_areMeasures 30 = .ok (.invokestatic 43, 3) := by decide +kernel
theorem dX7_areMeasures_33 : decode cX7_areMeasures 33 = .ok (.ifCond .eq 7, 3) := by decide +kernel
theorem dX7_areMeasures_36 : decode cX7_areMeasures 36 = .ok (.iconst 1, 1) := by decide +kernel
theorem dX7_areMeasures_37 : decode cX7_areMeasures 37 = .ok (.goto 4, 3) := by decide +kernel
theorem dX7_areMeasures_40 : decode cX7_areMeasures 40 = .ok (.iconst 0, 1) := by decide +kernel
theorem dX7_areMeasures_41 : decode cX7_areMeasures 41 = .ok (.ireturn, 1) := by decide +kernel
theorem dX7_isSetting_0 : decode cX7_isSetting 0 = .ok (.iload_n 0, 1) := by decide +kernel
theorem dX7_isSetting_1 : decode cX7_isSetting 1 = .ok (.iconst 3, 1) := by decide +kernel
theorem dX7_isSetting_2 : decode cX7_isSetting 2 = .ok (.if_icmp .ne 13, 3) := by decide +kernel
theorem dX7_isSetting_5 : decode cX7_isSetting 5 = .ok (.iload_n 1, 1) := by decide +kernel
theorem dX7_isSetting_6 : decode cX7_isSetting 6 = .ok (.iconst 1, 1) := by decide +kernel
theorem dX7_isSetting_7 : decode cX7_isSetting 7 = .ok (.bipush 9, 2) := by decide +kernel
theorem dX7_isSetting_9 : decode cX7_isSetting 9 = .ok (.invokestatic 43, 3) := by decide +kernel
theorem dX7_isSetting_12 : decode cX7_isSetting 12 = .ok (.goto 10, 3) := by decide +kernel
theorem dX7_isSetting_15 : decode cX7_isSetting 15 = .ok (.iload_n 1, 1) := by decide +kernel
theorem dX7_isSetting_16 : decode cX7_isSetting 16 = .ok (.iconst 0, 1) := by decide +kernel
theorem dX7_isSetting_17 : decode cX7_isSetting 17 = .ok (.bipush 20, 2) := by decide +kernel
theorem dX7_isSetting_19 : decode cX7_isSetting 19 = .ok (.invokestatic 43, 3) := by decide +kernel
theorem dX7_isSetting_22 : decode cX7_isSetting 22 = .ok (.ireturn, 1) := by decide +kernel
theorem dX7_isProgram_0 : decode cX7_isProgram 0 = .ok (.iload_n 0, 1) := by decide +kernel
theorem dX7_isProgram_1 : decode cX7_isProgram 1 = .ok (.iconst 0, 1) := by decide +kernel
theorem dX7_isProgram_2 : decode cX7_isProgram 2 = .ok (.iconst 3, 1) := by decide +kernel
theorem dX7_isProgram_3 : decode cX7_isProgram 3 = .ok (.invokestatic 43, 3) := by decide +kernel
theorem dX7_isProgram_6 : decode cX7_isProgram 6 = .ok (.ireturn, 1) := by decide +kernel
theorem dX7_isSetOfCostumes_0 : decode cX7_isSetOfCostumes 0 = .ok (.iload_n 1, 1) := by decide +kernel
theorem dX7_isSetOfCostumes_1 : decode cX7_isSetOfCostumes 1 = .ok (.aload_n 0, 1) := by decide +kernel
theorem dX7_isSetOfCostumes_2 : decode cX7_isSetOfCostumes 2 = .ok (.getfield 10, 3) := by decide +kernel
theorem dX7_isSetOfCostumes_5 : decode cX7_isSetOfCostumes 5 = .ok (.getfield 46, 3) := by decide +kernel
theorem dX7_isSetOfCostumes_8 : decode cX7_isSetOfCostumes 8 = .ok (.getfield 50, 3) := by decide +kernel
theorem dX7_isSetOfCostumes_11 : decode cX7_isSetOfCostumes 11 = .ok (.iushr, 1) := by decide +kernel
theorem dX7_isSetOfCostumes_12 : decode cX7_isSetOfCostumes 12 = .ok (.ifCond .ne 7, 3) := by decide +kernel
theorem dX7_isSetOfCostumes_15 : decode cX7_isSetOfCostumes 15 = .ok (.iconst 1, 1) := by decide +kernel
theorem dX7_isSetOfCostumes_16 : decode cX7_isSetOfCostumes 16 = .ok (.goto 4, 3) := by decide +kernel
theorem dX7_isSetOfCostumes_19 : decode cX7_isSetOfCostumes 19 = .ok (.iconst 0, 1) := by decide +kernel
theorem dX7_isSetOfCostumes_20 : decode cX7_isSetOfCostumes 20 = .ok (.ireturn, 1) := by decide +kernel
theorem dX7_at_0 : decode cX7_at 0 = .ok (.iload_n 1, 1) := by decide +kernel
theorem dX7_at_1 : decode cX7_at 1 = .ok (.ifCond .lt 15, 3) := by decide +kernel
theorem dX7_at_4 : decode cX7_at 4 = .ok (.iload_n 1, 1) := by decide +kernel
theorem dX7_at_5 : decode cX7_at 5 = .ok (.aload_n 0, 1) := by decide +kernel
theorem dX7_at_6 : decode cX7_at 6 = .ok (.arraylength, 1) := by decide +kernel
theorem dX7_at_7 : decode cX7_at 7 = .ok (.if_icmp .ge 9, 3) := by decide +kernel
theorem dX7_at_10 : decode cX7_at 10 = .ok (.aload_n 0, 1) := by decide +kernel
theorem dX7_at_11 : decode cX7_at 11 = .ok (.iload_n 1, 1) := by decide +kernel
theorem dX7_at_12 : decode cX7_at 12 = .ok (.iaload, 1) := by decide +kernel
theorem dX7_at_13 : decode cX7_at 13 = .ok (.goto 4, 3) := by decide +kernel
theorem dX7_at_16 : decode cX7_at 16 = .ok (.iconst 0, 1) := by decide +kernel
theorem dX7_at_17 : decode cX7_at 17 = .ok (.ireturn, 1) := by decide +kernel
theorem dX7_put_0 : decode cX7_put 0 = .ok (.iload_n 1, 1) := by decide +kernel
theorem dX7_put_1 : decode cX7_put 1 = .ok (.ifCond .lt 13, 3) := by decide +kernel
theorem dX7_put_4 : decode cX7_put 4 = .ok (.iload_n 1, 1) := by decide +kernel
theorem dX7_put_5 : decode cX7_put 5 = .ok (.aload_n 0, 1) := by decide +kernel
theorem dX7_put_6 : decode cX7_put 6 = .ok (.arraylength, 1) := by decide +kernel
theorem dX7_put_7 : decode cX7_put 7 = .ok (.if_icmp .ge 7, 3) := by decide +kernel
theorem dX7_put_10 : decode cX7_put 10 = .ok (.aload_n 0, 1) := by decide +kernel
theorem dX7_put_11 : decode cX7_put 11 = .ok (.iload_n 1, 1) := by decide +kernel
theorem dX7_put_12 : decode cX7_put 12 = .ok (.iload_n 2, 1) := by decide +kernel
theorem dX7_put_13 : decode cX7_put 13 = .ok (.iastore, 1) := by decide +kernel
theorem dX7_put_14 : decode cX7_put 14 = .ok (.return_, 1) := by decide +kernel
theorem dX7_copyRow_0 : decode cX7_copyRow 0 = .ok (.aload_n 0, 1) := by decide +kernel
theorem dX7_copyRow_1 : decode cX7_copyRow 1 = .ok (.iconst 0, 1) := by decide +kernel
theorem dX7_copyRow_2 : decode cX7_copyRow 2 = .ok (.aload_n 1, 1) := by decide +kernel
theorem dX7_copyRow_3 : decode cX7_copyRow 3 = .ok (.iconst 0, 1) := by decide +kernel
theorem dX7_copyRow_4 : decode cX7_copyRow 4 = .ok (.aload_n 0, 1) := by decide +kernel
theorem dX7_copyRow_5 : decode cX7_copyRow 5 = .ok (.arraylength, 1) := by decide +kernel
theorem dX7_copyRow_6 : decode cX7_copyRow 6 = .ok (.aload_n 1, 1) := by decide +kernel
theorem dX7_copyRow_7 : decode cX7_copyRow 7 = .ok (.arraylength, 1) := by decide +kernel
theorem dX7_copyRow_8 : decode cX7_copyRow 8 = .ok (.invokestatic 284, 3) := by decide +kernel
theorem dX7_copyRow_11 : decode cX7_copyRow 11 = .ok (.invokestatic 287, 3) := by decide +kernel
theorem dX7_copyRow_14 : decode cX7_copyRow 14 = .ok (.return_, 1) := by decide +kernel
theorem dX7_isIn_0 : decode cX7_isIn 0 = .ok (.iload_n 0, 1) := by decide +kernel
theorem dX7_isIn_1 : decode cX7_isIn 1 = .ok (.iload_n 1, 1) := by decide +kernel
theorem dX7_isIn_2 : decode cX7_isIn 2 = .ok (.ishr, 1) := by decide +kernel
theorem dX7_isIn_3 : decode cX7_isIn 3 = .ok (.iconst 1, 1) := by decide +kernel
theorem dX7_isIn_4 : decode cX7_isIn 4 = .ok (.iand, 1) := by decide +kernel
theorem dX7_isIn_5 : decode cX7_isIn 5 = .ok (.ifCond .eq 7, 3) := by decide +kernel
theorem dX7_isIn_8 : decode cX7_isIn 8 = .ok (.iconst 1, 1) := by decide +kernel
theorem dX7_isIn_9 : decode cX7_isIn 9 = .ok (.goto 4, 3) := by decide +kernel
theorem dX7_isIn_12 : decode cX7_isIn 12 = .ok (.iconst 0, 1) := by decide +kernel
theorem dX7_isIn_13 : decode cX7_isIn 13 = .ok (.ireturn, 1) := by decide +kernel
theorem dJ6_bitCount_0f7a4_0 : decode cJ6_bitCount_0f7a4 0 = .ok (.iload_n 0, 1) := by decide +kernel
theorem dJ6_bitCount_0f7a4_1 : decode cJ6_bitCount_0f7a4 1 = .ok (.iload_n 0, 1) := by decide +kernel
theorem dJ6_bitCount_0f7a4_2 : decode cJ6_bitCount_0f7a4 2 = .ok (.iconst 1, 1) := by decide +kernel
theorem dJ6_bitCount_0f7a4_3 : decode cJ6_bitCount_0f7a4 3 = .ok (.iushr, 1) := by decide +kernel
theorem dJ6_bitCount_0f7a4_4 : decode cJ6_bitCount_0f7a4 4 = .ok (.ldc_w 265, 3) := by decide +kernel
theorem dJ6_bitCount_0f7a4_7 : decode cJ6_bitCount_0f7a4 7 = .ok (.iand, 1) := by decide +kernel
theorem dJ6_bitCount_0f7a4_8 : decode cJ6_bitCount_0f7a4 8 = .ok (.isub, 1) := by decide +kernel
theorem dJ6_bitCount_0f7a4_9 : decode cJ6_bitCount_0f7a4 9 = .ok (.istore_n 0, 1) := by decide +kernel
theorem dJ6_bitCount_0f7a4_10 : decode cJ6_bitCount_0f7a4 10 = .ok (.iload_n 0, 1) := by decide +kernel
theorem dJ6_bitCount_0f7a4_11 : decode cJ6_bitCount_0f7a4 11 = .ok (.ldc_w 266, 3) := by decide +kernel
theorem dJ6_bitCount_0f7a4_14 : decode cJ6_bitCount_0f7a4 14 = .ok (.iand, 1) := by decide +kernel
theorem dJ6_bitCount_0f7a4_15 : decode cJ6_bitCount_0f7a4 15 = .ok (.iload_n 0, 1) := by decide +kernel
theorem dJ6_bitCount_0f7a4_16 : decode cJ6_bitCount_0f7a4 16 = .ok (.iconst 2, 1) := by decide +kernel
theorem dJ6_bitCount_0f7a4_17 : decode cJ6_bitCount_0f7a4 17 = .ok (.iushr, 1) := by decide +kernel
theorem dJ6_bitCount_0f7a4_18 : decode cJ6_bitCount_0f7a4 18 = .ok (.ldc_w 266, 3) := by decide +kernel
theorem dJ6_bitCount_0f7a4_21 : decode cJ6_bitCount_0f7a4 21 = .ok (.iand, 1) := by decide +kernel
theorem dJ6_bitCount_0f7a4_22 : decode cJ6_bitCount_0f7a4 22 = .ok (.iadd, 1) := by decide +kernel
theorem dJ6_bitCount_0f7a4_23 : decode cJ6_bitCount_0f7a4 23 = .ok (.istore_n 0, 1) := by decide +kernel
theorem dJ6_bitCount_0f7a4_24 : decode cJ6_bitCount_0f7a4 24 = .ok (.iload_n 0, 1) := by decide +kernel
theorem dJ6_bitCount_0f7a4_25 : decode cJ6_bitCount_0f7a4 25 = .ok (.iload_n 0, 1) := by decide +kernel
theorem dJ6_bitCount_0f7a4_26 : decode cJ6_bitCount_0f7a4 26 = .ok (.iconst 4, 1) := by decide +kernel
theorem dJ6_bitCount_0f7a4_27 : decode cJ6_bitCount_0f7a4 27 = .ok (.iushr, 1) := by decide +kernel
theorem dJ6_bitCount_0f7a4_28 : decode cJ6_bitCount_0f7a4 28 = .ok (.iadd, 1) := by decide +kernel
theorem dJ6_bitCount_0f7a4_29 : decode cJ6_bitCount_0f7a4 29 = .ok (.ldc_w 267, 3) := by decide +kernel
theorem dJ6_bitCount_0f7a4_32 : decode cJ6_bitCount_0f7a4 32 = .ok (.iand, 1) := by decide +kernel
theorem dJ6_bitCount_0f7a4_33 : decode cJ6_bitCount_0f7a4 33 = .ok (.istore_n 0, 1) := by decide +kernel
theorem dJ6_bitCount_0f7a4_34 : decode cJ6_bitCount_0f7a4 34 = .ok (.iload_n 0, 1) := by decide +kernel
theorem dJ6_bitCount_0f7a4_35 : decode cJ6_bitCount_0f7a4 35 = .ok (.iload_n 0, 1) := by decide +kernel
theorem dJ6_bitCount_0f7a4_36 : decode cJ6_bitCount_0f7a4 36 = .ok (.bipush 8, 2) := by decide +kernel
theorem dJ6_bitCount_0f7a4_38 : decode cJ6_bitCount_0f7a4 38 = .ok (.iushr, 1) := by decide +kernel
theorem dJ6_bitCount_0f7a4_39 : decode cJ6_bitCount_0f7a4 39 = .ok (.iadd, 1) := by decide +kernel
theorem dJ6_bitCount_0f7a4_40 : decode cJ6_bitCount_0f7a4 40 = .ok (.istore_n 0, 1) := by decide +kernel
theorem dJ6_bitCount_0f7a4_41 : decode cJ6_bitCount_0f7a4 41 = .ok (.iload_n 0, 1) := by decide +kernel
theorem dJ6_bitCount_0f7a4_42 : decode cJ6_bitCount_0f7a4 42 = .ok (.iload_n 0, 1) := by decide +kernel
theorem dJ6_bitCount_0f7a4_43 : decode cJ6_bitCount_0f7a4 43 = .ok (.bipush 16, 2) := by decide +kernel
theorem dJ6_bitCount_0f7a4_45 : decode cJ6_bitCount_0f7a4 45 = .ok (.iushr, 1) := by decide +kernel
theorem dJ6_bitCount_0f7a4_46 : decode cJ6_bitCount_0f7a4 46 = .ok (.iadd, 1) := by decide +kernel
theorem dJ6_bitCount_0f7a4_47 : decode cJ6_bitCount_0f7a4 47 = .ok (.istore_n 0, 1) := by decide +kernel
theorem dJ6_bitCount_0f7a4_48 : decode cJ6_bitCount_0f7a4 48 = .ok (.iload_n 0, 1) := by decide +kernel
theorem dJ6_bitCount_0f7a4_49 : decode cJ6_bitCount_0f7a4 49 = .ok (.bipush 63, 2) := by decide +kernel
theorem dJ6_bitCount_0f7a4_51 : decode cJ6_bitCount_0f7a4 51 = .ok (.iand, 1) := by decide +kernel
theorem dJ6_bitCount_0f7a4_52 : decode cJ6_bitCount_0f7a4 52 = .ok (.ireturn, 1) := by decide +kernel
theorem dJ9_abs_0f7a4_0 : decode cJ9_abs_0f7a4 0 = .ok (.iload_n 0, 1) := by decide +kernel
theorem dJ9_abs_0f7a4_1 : decode cJ9_abs_0f7a4 1 = .ok (.ifCond .ge 8, 3) := by decide +kernel
theorem dJ9_abs_0f7a4_4 : decode cJ9_abs_0f7a4 4 = .ok (.iload_n 0, 1) := by decide +kernel
theorem dJ9_abs_0f7a4_5 : decode cJ9_abs_0f7a4 5 = .ok (.ineg, 1) := by decide +kernel
theorem dJ9_abs_0f7a4_6 : decode cJ9_abs_0f7a4 6 = .ok (.goto 4, 3) := by decide +kernel
theorem dJ9_abs_0f7a4_9 : decode cJ9_abs_0f7a4 9 = .ok (.iload_n 0, 1) := by decide +kernel
theorem dJ9_abs_0f7a4_10 : decode cJ9_abs_0f7a4 10 = .ok (.ireturn, 1) := by decide +kernel
theorem dJ9_max_7cf53_0 : decode cJ9_max_7cf53 0 = .ok (.iload_n 0, 1) := by decide +kernel
theorem dJ9_max_7cf53_1 : decode cJ9_max_7cf53 1 = .ok (.iload_n 1, 1) := by decide +kernel
theorem dJ9_max_7cf53_2 : decode cJ9_max_7cf53 2 = .ok (.if_icmp .lt 7, 3) := by decide +kernel
theorem dJ9_max_7cf53_5 : decode cJ9_max_7cf53 5 = .ok (.iload_n 0, 1) := by decide +kernel
theorem dJ9_max_7cf53_6 : decode cJ9_max_7cf53 6 = .ok (.goto 4, 3) := by decide +kernel
theorem dJ9_max_7cf53_9 : decode cJ9_max_7cf53 9 = .ok (.iload_n 1, 1) := by decide +kernel
theorem dJ9_max_7cf53_10 : decode cJ9_max_7cf53 10 = .ok (.ireturn, 1) := by decide +kernel
theorem dJ9_min_7cf53_0 : decode cJ9_min_7cf53 0 = .ok (.iload_n 0, 1) := by decide +kernel
theorem dJ9_min_7cf53_1 : decode cJ9_min_7cf53 1 = .ok (.iload_n 1, 1) := by decide +kernel
theorem dJ9_min_7cf53_2 : decode cJ9_min_7cf53 2 = .ok (.if_icmp .gt 7, 3) := by decide +kernel
theorem dJ9_min_7cf53_5 : decode cJ9_min_7cf53 5 = .ok (.iload_n 0, 1) := by decide +kernel
theorem dJ9_min_7cf53_6 : decode cJ9_min_7cf53 6 = .ok (.goto 4, 3) := by decide +kernel
theorem dJ9_min_7cf53_9 : decode cJ9_min_7cf53 9 = .ok (.iload_n 1, 1) := by decide +kernel
theorem dJ9_min_7cf53_10 : decode cJ9_min_7cf53 10 = .ok (.ireturn, 1) := by decide +kernel
theorem dJ0_length_8abf5_0 : decode cJ0_length_8abf5 0 = .ok (.aload_n 0, 1) := by decide +kernel
theorem dJ0_length_8abf5_1 : decode cJ0_length_8abf5 1 = .ok (.getfield 9, 3) := by decide +kernel
theorem dJ0_length_8abf5_4 : decode cJ0_length_8abf5 4 = .ok (.arraylength, 1) := by decide +kernel
theorem dJ0_length_8abf5_5 : decode cJ0_length_8abf5 5 = .ok (.aload_n 0, 1) := by decide +kernel
theorem dJ0_length_8abf5_6 : decode cJ0_length_8abf5 6 = .ok (.invokevirtual 335, 3) := by decide +kernel
theorem dJ0_length_8abf5_9 : decode cJ0_length_8abf5 9 = .ok (.ishr, 1) := by decide +kernel
theorem dJ0_length_8abf5_10 : decode cJ0_length_8abf5 10 = .ok (.ireturn, 1) := by decide +kernel
theorem dJ0_charAt_5068e_0 : decode cJ0_charAt_5068e 0 = .ok (.aload_n 0, 1) := by decide +kernel
theorem dJ0_charAt_5068e_1 : decode cJ0_charAt_5068e 1 = .ok (.invokevirtual 492, 3) := by decide +kernel
theorem dJ0_charAt_5068e_4 : decode cJ0_charAt_5068e 4 = .ok (.ifCond .eq 12, 3) := by decide +kernel
theorem dJ0_charAt_5068e_7 : decode cJ0_charAt_5068e 7 = .ok (.aload_n 0, 1) := by decide +kernel
theorem dJ0_charAt_5068e_8 : decode cJ0_charAt_5068e 8 = .ok (.getfield 9, 3) := by decide +kernel
theorem dJ0_charAt_5068e_11 : decode cJ0_charAt_5068e 11 = .ok (.iload_n 1, 1) := by decide +kernel
theorem dJ0_charAt_5068e_12 : decode cJ0_charAt_5068e 12 = .ok (.invokestatic 495, 3) := by decide +kernel
theorem dJ0_charAt_5068e_15 : decode cJ0_charAt_5068e 15 = .ok (.ireturn, 1) := by decide +kernel
theorem dJ0_charAt_5068e_16 : decode cJ0_charAt_5068e 16 = .ok (.aload_n 0, 1) := by decide +kernel
theorem dJ0_charAt_5068e_17 : decode cJ0_charAt_5068e 17 = .ok (.getfield 9, 3) := by decide +kernel
theorem dJ0_charAt_5068e_20 : decode cJ0_charAt_5068e 20 = .ok (.iload_n 1, 1) := by decide +kernel
theorem dJ0_charAt_5068e_21 : decode cJ0_charAt_5068e 21 = .ok (.invokestatic 498, 3) := by decide +kernel
theorem dJ0_charAt_5068e_24 : decode cJ0_charAt_5068e 24 = .ok (.ireturn, 1) := by decide +kernel
theorem dJ0_coder_7d493_0 : decode cJ0_coder_7d493 0 = .ok (.getstatic 38, 3) := by decide +kernel
theorem dJ0_coder_7d493_3 : decode cJ0_coder_7d493 3 = .ok (.ifCond .eq 10, 3) := by decide +kernel
theorem dJ0_coder_7d493_6 : decode cJ0_coder_7d493 6 = .ok (.aload_n 0, 1) := by decide +kernel
theorem dJ0_coder_7d493_7 : decode cJ0_coder_7d493 7 = .ok (.getfield 15, 3) := by decide +kernel
theorem dJ0_coder_7d493_10 : decode cJ0_coder_7d493 10 = .ok (.goto 4, 3) := by decide +kernel
theorem dJ0_coder_7d493_13 : decode cJ0_coder_7d493 13 = .ok (.iconst 1, 1) := by decide +kernel
theorem dJ0_coder_7d493_14 : decode cJ0_coder_7d493 14 = .ok (.ireturn, 1) := by decide +kernel
theorem dJ0_isLatin1_aae02_0 : decode cJ0_isLatin1_aae02 0 = .ok (.getstatic 38, 3) := by decide +kernel
theorem dJ0_isLatin1_aae02_3 : decode cJ0_isLatin1_aae02 3 = .ok (.ifCond .eq 14, 3) := by decide +kernel
theorem dJ0_isLatin1_aae02_6 : decode cJ0_isLatin1_aae02 6 = .ok (.aload_n 0, 1) := by decide +kernel
theorem dJ0_isLatin1_aae02_7 : decode cJ0_isLatin1_aae02 7 = .ok (.getfield 15, 3) := by decide +kernel
theorem dJ0_isLatin1_aae02_10 : decode cJ0_isLatin1_aae02 10 = .ok (.ifCond .ne 7, 3) := by decide +kernel
theorem dJ0_isLatin1_aae02_13 : decode cJ0_isLatin1_aae02 13 = .ok (.iconst 1, 1) := by decide +kernel
theorem dJ0_isLatin1_aae02_14 : decode cJ0_isLatin1_aae02 14 = .ok (.goto 4, 3) := by decide +kernel
theorem dJ0_isLatin1_aae02_17 : decode cJ0_isLatin1_aae02 17 = .ok (.iconst 0, 1) := by decide +kernel
theorem dJ0_isLatin1_aae02_18 : decode cJ0_isLatin1_aae02 18 = .ok (.ireturn, 1) := by decide +kernel
theorem dJ0_checkIndex_df160_0 : decode cJ0_checkIndex_df160 0 = .ok (.iload_n 0, 1) := by decide +kernel
theorem dJ0_checkIndex_df160_1 : decode cJ0_checkIndex_df160 1 = .ok (.iload_n 1, 1) := by decide +kernel
theorem dJ0_checkIndex_df160_2 : decode cJ0_checkIndex_df160 2 = .ok (.getstatic 1053, 3) := by decide +kernel
theorem dJ0_checkIndex_df160_5 : decode cJ0_checkIndex_df160 5 = .ok (.invokestatic 1059, 3) := by decide +kernel
theorem dJ0_checkIndex_df160_8 : decode cJ0_checkIndex_df160 8 = .ok (.pop, 1) := by decide +kernel
theorem dJ0_checkIndex_df160_9 : decode cJ0_checkIndex_df160 9 = .ok (.return_, 1) := by decide +kernel
theorem dJ1_charAt_3b067_0 : decode cJ1_charAt_3b067 0 = .ok (.iload_n 1, 1) := by decide +kernel
theorem dJ1_charAt_3b067_1 : decode cJ1_charAt_3b067 1 = .ok (.aload_n 0, 1) := by decide +kernel
theorem dJ1_charAt_3b067_2 : decode cJ1_charAt_3b067 2 = .ok (.arraylength, 1) := by decide +kernel
theorem dJ1_charAt_3b067_3 : decode cJ1_charAt_3b067 3 = .ok (.invokestatic 9, 3) := by decide +kernel
theorem dJ1_charAt_3b067_6 : decode cJ1_charAt_3b067 6 = .ok (.aload_n 0, 1) := by decide +kernel
theorem dJ1_charAt_3b067_7 : decode cJ1_charAt_3b067 7 = .ok (.iload_n 1, 1) := by decide +kernel
theorem dJ1_charAt_3b067_8 : decode cJ1_charAt_3b067 8 = .ok (.baload, 1) := by decide +kernel
theorem dJ1_charAt_3b067_9 : decode cJ1_charAt_3b067 9 = .ok (.sipush 255, 3) := by decide +kernel
theorem dJ1_charAt_3b067_12 : decode cJ1_charAt_3b067 12 = .ok (.iand, 1) := by decide +kernel
theorem dJ1_charAt_3b067_13 : decode cJ1_charAt_3b067 13 = .ok (.i2c, 1) := by decide +kernel
theorem dJ1_charAt_3b067_14 : decode cJ1_charAt_3b067 14 = .ok (.ireturn, 1) := by decide +kernel
theorem dJ2_getChar_3b067_0 : decode cJ2_getChar_3b067 0 = .ok (.getstatic 44, 3) := by decide +kernel
theorem dJ2_getChar_3b067_3 : decode cJ2_getChar_3b067 3 = .ok (.ifCond .ne 25, 3) := by decide +kernel
theorem dJ2_getChar_3b067_6 : decode cJ2_getChar_3b067 6 = .ok (.iload_n 1, 1) := by decide +kernel
theorem dJ2_getChar_3b067_7 : decode cJ2_getChar_3b067 7 = .ok (.ifCond .lt 11, 3) := by decide +kernel
theorem dJ2_getChar_3b067_10 : decode cJ2_getChar_3b067 10 = .ok (.iload_n 1, 1) := by decide +kernel
theorem dJ2_getChar_3b067_11 : decode cJ2_getChar_3b067 11 = .ok (.aload_n 0, 1) := by decide +kernel
theorem dJ2_getChar_3b067_12 : decode cJ2_getChar_3b067 12 = .ok (.invokestatic 48, 3) := by decide +kernel
theorem dJ2_getChar_3b067_15 : decode cJ2_getChar_3b067 15 = .ok (.if_icmp .lt 13, 3) := by decide +kernel
theorem dJ2_getChar_3b067_18 : decode cJ2_getChar_3b067 18 = .ok (.new 52, 3) := by decide +kernel
theorem dJ2_getChar_3b067_21 : decode cJ2_getChar_3b067 21 = .ok (.dup, 1) := by decide +kernel
theorem dJ2_getChar_3b067_22 : decode cJ2_getChar_3b067 22 = .ok (.ldc 54, 2) := by decide +kernel
theorem dJ2_getChar_3b067_24 : decode cJ2_getChar_3b067 24 = .ok (.invokespecial 56, 3) := by decide +kernel
theorem dJ2_getChar_3b067_27 : decode cJ2_getChar_3b067 27 = .ok (.athrow, 1) := by decide +kernel
theorem dJ2_getChar_3b067_28 : decode cJ2_getChar_3b067 28 = .ok (.iload_n 1, 1) := by decide +kernel
theorem dJ2_getChar_3b067_29 : decode cJ2_getChar_3b067 29 = .ok (.iconst 1, 1) := by decide +kernel
theorem dJ2_getChar_3b067_30 : decode cJ2_getChar_3b067 30 = .ok (.ishl, 1) := by decide +kernel
theorem dJ2_getChar_3b067_31 : decode cJ2_getChar_3b067 31 = .ok (.istore_n 1, 1) := by decide +kernel
theorem dJ2_getChar_3b067_32 : decode cJ2_getChar_3b067 32 = .ok (.aload_n 0, 1) := by decide +kernel
theorem dJ2_getChar_3b067_33 : decode cJ2_getChar_3b067 33 = .ok (.iload_n 1, 1) := by decide +kernel
theorem dJ2_getChar_3b067_34 : decode cJ2_getChar_3b067 34 = .ok (.iinc 1 1, 3) := by decide +kernel
theorem dJ2_getChar_3b067_37 : decode cJ2_getChar_3b067 37 = .ok (.baload, 1) := by decide +kernel
theorem dJ2_getChar_3b067_38 : decode cJ2_getChar_3b067 38 = .ok (.sipush 255, 3) := by decide +kernel
theorem dJ2_getChar_3b067_41 : decode cJ2_getChar_3b067 41 = .ok (.iand, 1) := by decide +kernel
theorem dJ2_getChar_3b067_42 : decode cJ2_getChar_3b067 42 = .ok (.getstatic 59, 3) := by decide +kernel
theorem dJ2_getChar_3b067_45 : decode cJ2_getChar_3b067 45 = .ok (.ishl, 1) := by decide +kernel
theorem dJ2_getChar_3b067_46 : decode cJ2_getChar_3b067 46 = .ok (.aload_n 0, 1) := by decide +kernel
theorem dJ2_getChar_3b067_47 : decode cJ2_getChar_3b067 47 = .ok (.iload_n 1, 1) := by decide +kernel
theorem dJ2_getChar_3b067_48 : decode cJ2_getChar_3b067 48 = .ok (.baload, 1) := by decide +kernel
theorem dJ2_getChar_3b067_49 : decode cJ2_getChar_3b067 49 = .ok (.sipush 255, 3) := by decide +kernel
theorem dJ2_getChar_3b067_52 : decode cJ2_getChar_3b067 52 = .ok (.iand, 1) := by decide +kernel
theorem dJ2_getChar_3b067_53 : decode cJ2_getChar_3b067 53 = .ok (.getstatic 63, 3) := by decide +kernel
theorem dJ2_getChar_3b067_56 : decode cJ2_getChar_3b067 56 = .ok (.ishl, 1) := by decide +kernel
theorem dJ2_getChar_3b067_57 : decode cJ2_getChar_3b067 57 = .ok (.ior, 1) := by decide +kernel
theorem dJ2_getChar_3b067_58 : decode cJ2_getChar_3b067 58 = .ok (.i2c, 1) := by decide +kernel
theorem dJ2_getChar_3b067_59 : decode cJ2_getChar_3b067 59 = .ok (.ireturn, 1) := by decide +kernel
theorem dJ2_length_9d52b_0 : decode cJ2_length_9d52b 0 = .ok (.aload_n 0, 1) := by decide +kernel
theorem dJ2_length_9d52b_1 : decode cJ2_length_9d52b 1 = .ok (.arraylength, 1) := by decide +kernel
theorem dJ2_length_9d52b_2 : decode cJ2_length_9d52b 2 = .ok (.iconst 1, 1) := by decide +kernel
theorem dJ2_length_9d52b_3 : decode cJ2_length_9d52b 3 = .ok (.ishr, 1) := by decide +kernel
theorem dJ2_length_9d52b_4 : decode cJ2_length_9d52b 4 = .ok (.ireturn, 1) := by decide +kernel
theorem dJ2_charAt_3b067_0 : decode cJ2_charAt_3b067 0 = .ok (.iload_n 1, 1) := by decide +kernel
theorem dJ2_charAt_3b067_1 : decode cJ2_charAt_3b067 1 = .ok (.aload_n 0, 1) := by decide +kernel
theorem dJ2_charAt_3b067_2 : decode cJ2_charAt_3b067 2 = .ok (.invokestatic 67, 3) := by decide +kernel
theorem dJ2_charAt_3b067_5 : decode cJ2_charAt_3b067 5 = .ok (.aload_n 0, 1) := by decide +kernel
theorem dJ2_charAt_3b067_6 : decode cJ2_charAt_3b067 6 = .ok (.iload_n 1, 1) := by decide +kernel
theorem dJ2_charAt_3b067_7 : decode cJ2_charAt_3b067 7 = .ok (.invokestatic 71, 3) := by decide +kernel
theorem dJ2_charAt_3b067_10 : decode cJ2_charAt_3b067 10 = .ok (.ireturn, 1) := by decide +kernel
theorem dJ2_checkIndex_2214a_0 : decode cJ2_checkIndex_2214a 0 = .ok (.iload_n 0, 1) := by decide +kernel
theorem dJ2_checkIndex_2214a_1 : decode cJ2_checkIndex_2214a 1 = .ok (.aload_n 1, 1) := by decide +kernel
theorem dJ2_checkIndex_2214a_2 : decode cJ2_checkIndex_2214a 2 = .ok (.invokestatic 48, 3) := by decide +kernel
theorem dJ2_checkIndex_2214a_5 : decode cJ2_checkIndex_2214a 5 = .ok (.invokestatic 414, 3) := by decide +kernel
theorem dJ2_checkIndex_2214a_8 : decode cJ2_checkIndex_2214a 8 = .ok (.return_, 1) := by decide +kernel
theorem dJ3_checkIndex_8e157_0 : decode cJ3_checkIndex_8e157 0 = .ok (.iload_n 0, 1) := by decide +kernel
theorem dJ3_checkIndex_8e157_1 : decode cJ3_checkIndex_8e157 1 = .ok (.ifCond .lt 8, 3) := by decide +kernel
theorem dJ3_checkIndex_8e157_4 : decode cJ3_checkIndex_8e157 4 = .ok (.iload_n 0, 1) := by decide +kernel
theorem dJ3_checkIndex_8e157_5 : decode cJ3_checkIndex_8e157 5 = .ok (.iload_n 1, 1) := by decide +kernel
theorem dJ3_checkIndex_8e157_6 : decode cJ3_checkIndex_8e157 6 = .ok (.if_icmp .lt 10, 3) := by decide +kernel
theorem dJ3_checkIndex_8e157_9 : decode cJ3_checkIndex_8e157 9 = .ok (.aload_n 2, 1) := by decide +kernel
theorem dJ3_checkIndex_8e157_10 : decode cJ3_checkIndex_8e157 10 = .ok (.iload_n 0, 1) := by decide +kernel
theorem dJ3_checkIndex_8e157_11 : decode cJ3_checkIndex_8e157 11 = .ok (.iload_n 1, 1) := by decide +kernel
theorem dJ3_checkIndex_8e157_12 : decode cJ3_checkIndex_8e157 12 = .ok (.invokestatic 95, 3) := by decide +kernel
theorem dJ3_checkIndex_8e157_15 : decode cJ3_checkIndex_8e157 15 = .ok (.athrow, 1) := by decide +kernel
theorem dJ3_checkIndex_8e157_16 : decode cJ3_checkIndex_8e157 16 = .ok (.iload_n 0, 1) := by decide +kernel
theorem dJ3_checkIndex_8e157_17 : decode cJ3_checkIndex_8e157 17 = .ok (.ireturn, 1) := by decide +kernel
