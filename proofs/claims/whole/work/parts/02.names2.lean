theorem dX8_init_0 : decode cX8_init 0 = .ok (.aload_n 0, 1) := by decide +kernel
theorem dX8_init_1 : decode cX8_init 1 = .ok (.invokespecial 1, 3) := by decide +kernel
theorem dX8_init_4 : decode cX8_init 4 = .ok (.aload_n 0, 1) := by decide +kernel
theorem dX8_init_5 : decode cX8_init 5 = .ok (.sipush 572, 3) := by decide +kernel
theorem dX8_init_8 : decode cX8_init 8 = .ok (.newarray .int, 2) := by decide +kernel
theorem dX8_init_10 : decode cX8_init 10 = .ok (.putfield 7, 3) := by decide +kernel
theorem dX8_init_13 : decode cX8_init 13 = .ok (.aload_n 0, 1) := by decide +kernel
theorem dX8_init_14 : decode cX8_init 14 = .ok (.sipush 572, 3) := by decide +kernel
theorem dX8_init_17 : decode cX8_init 17 = .ok (.newarray .int, 2) := by decide +kernel
theorem dX8_init_19 : decode cX8_init 19 = .ok (.putfield 13, 3) := by decide +kernel
theorem dX8_init_22 : decode cX8_init 22 = .ok (.aload_n 0, 1) := by decide +kernel
theorem dX8_init_23 : decode cX8_init 23 = .ok (.sipush 2860, 3) := by decide +kernel
theorem dX8_init_26 : decode cX8_init 26 = .ok (.newarray .int, 2) := by decide +kernel
theorem dX8_init_28 : decode cX8_init 28 = .ok (.putfield 16, 3) := by decide +kernel
theorem dX8_init_31 : decode cX8_init 31 = .ok (.aload_n 0, 1) := by decide +kernel
theorem dX8_init_32 : decode cX8_init 32 = .ok (.bipush 120, 2) := by decide +kernel
theorem dX8_init_34 : decode cX8_init 34 = .ok (.newarray .int, 2) := by decide +kernel
theorem dX8_init_36 : decode cX8_init 36 = .ok (.putfield 19, 3) := by decide +kernel
theorem dX8_init_39 : decode cX8_init 39 = .ok (.aload_n 0, 1) := by decide +kernel
theorem dX8_init_40 : decode cX8_init 40 = .ok (.iconst 0, 1) := by decide +kernel
theorem dX8_init_41 : decode cX8_init 41 = .ok (.putfield 22, 3) := by decide +kernel
theorem dX8_init_44 : decode cX8_init 44 = .ok (.aload_n 0, 1) := by decide +kernel
theorem dX8_init_45 : decode cX8_init 45 = .ok (.getfield 7, 3) := by decide +kernel
theorem dX8_init_48 : decode cX8_init 48 = .ok (.bipush 8, 2) := by decide +kernel
theorem dX8_init_50 : decode cX8_init 50 = .ok (.bipush 6, 2) := by decide +kernel
theorem dX8_init_52 : decode cX8_init 52 = .ok (.iastore, 1) := by decide +kernel
theorem dX8_init_53 : decode cX8_init 53 = .ok (.aload_n 0, 1) := by decide +kernel
theorem dX8_init_54 : decode cX8_init 54 = .ok (.getfield 7, 3) := by decide +kernel
theorem dX8_init_57 : decode cX8_init 57 = .ok (.bipush 9, 2) := by decide +kernel
theorem dX8_init_59 : decode cX8_init 59 = .ok (.bipush 6, 2) := by decide +kernel
theorem dX8_init_61 : decode cX8_init 61 = .ok (.iastore, 1) := by decide +kernel
theorem dX8_init_62 : decode cX8_init 62 = .ok (.aload_n 0, 1) := by decide +kernel
theorem dX8_init_63 : decode cX8_init 63 = .ok (.getfield 7, 3) := by decide +kernel
theorem dX8_init_66 : decode cX8_init 66 = .ok (.bipush 10, 2) := by decide +kernel
theorem dX8_init_68 : decode cX8_init 68 = .ok (.iconst 4, 1) := by decide +kernel
theorem dX8_init_69 : decode cX8_init 69 = .ok (.iastore, 1) := by decide +kernel
theorem dX8_init_70 : decode cX8_init 70 = .ok (.aload_n 0, 1) := by decide +kernel
theorem dX8_init_71 : decode cX8_init 71 = .ok (.getfield 7, 3) := by decide +kernel
theorem dX8_init_74 : decode cX8_init 74 = .ok (.bipush 11, 2) := by decide +kernel
theorem dX8_init_76 : decode cX8_init 76 = .ok (.iconst 5, 1) := by decide +kernel
theorem dX8_init_77 : decode cX8_init 77 = .ok (.iastore, 1) := by decide +kernel
theorem dX8_init_78 : decode cX8_init 78 = .ok (.return_, 1) := by decide +kernel
theorem dX8_in_0 : decode cX8_in 0 = .ok (.lload_n 0, 1) := by decide +kernel
theorem dX8_in_1 : decode cX8_in 1 = .ok (.lload_n 2, 1) := by decide +kernel
theorem dX8_in_2 : decode cX8_in 2 = .ok (.lcmp, 1) := by decide +kernel
theorem dX8_in_3 : decode cX8_in 3 = .ok (.ifCond .lt 14, 3) := by decide +kernel
theorem dX8_in_6 : decode cX8_in 6 = .ok (.lload_n 0, 1) := by decide +kernel
theorem dX8_in_7 : decode cX8_in 7 = .ok (.lload 4, 2) := by decide +kernel
theorem dX8_in_9 : decode cX8_in 9 = .ok (.lcmp, 1) := by decide +kernel
theorem dX8_in_10 : decode cX8_in 10 = .ok (.ifCond .gt 7, 3) := by decide +kernel
theorem dX8_in_13 : decode cX8_in 13 = .ok (.iconst 1, 1) := by decide +kernel
theorem dX8_in_14 : decode cX8_in 14 = .ok (.goto 4, 3) := by decide +kernel
theorem dX8_in_17 : decode cX8_in 17 = .ok (.iconst 0, 1) := by decide +kernel
theorem dX8_in_18 : decode cX8_in 18 = .ok (.ireturn, 1) := by decide +kernel
theorem dX8_distance_0 : decode cX8_distance 0 = .ok (.iload_n 0, 1) := by decide +kernel
theorem dX8_distance_1 : decode cX8_distance 1 = .ok (.iload_n 1, 1) := by decide +kernel
theorem dX8_distance_2 : decode cX8_distance 2 = .ok (.if_icmp .ge 9, 3) := by decide +kernel
theorem dX8_distance_5 : decode cX8_distance 5 = .ok (.iload_n 1, 1) := by decide +kernel
theorem dX8_distance_6 : decode cX8_distance 6 = .ok (.iload_n 0, 1) := by decide +kernel
theorem dX8_distance_7 : decode cX8_distance 7 = .ok (.isub, 1) := by decide +kernel
theorem dX8_distance_8 : decode cX8_distance 8 = .ok (.goto 6, 3) := by decide +kernel
theorem dX8_distance_11 : decode cX8_distance 11 = .ok (.iload_n 0, 1) := by decide +kernel
theorem dX8_distance_12 : decode cX8_distance 12 = .ok (.iload_n 1, 1) := by decide +kernel
theorem dX8_distance_13 : decode cX8_distance 13 = .ok (.isub, 1) := by decide +kernel
theorem dX8_distance_14 : decode cX8_distance 14 = .ok (.ireturn, 1) := by decide +kernel
theorem dX8_act_0 : decode cX8_act 0 = .ok (.aload_n 0, 1) := by decide +kernel
theorem dX8_act_1 : decode cX8_act 1 = .ok (.getfield 26, 3) := by decide +kernel
theorem dX8_act_4 : decode cX8_act 4 = .ok (.iconst 5, 1) := by decide +kernel
theorem dX8_act_5 : decode cX8_act 5 = .ok (.if_icmp .ne 44, 3) := by decide +kernel
theorem dX8_act_8 : decode cX8_act 8 = .ok (.iconst 0, 1) := by decide +kernel
theorem dX8_act_9 : decode cX8_act 9 = .ok (.istore_n 1, 1) := by decide +kernel
theorem dX8_act_10 : decode cX8_act 10 = .ok (.iload_n 1, 1) := by decide +kernel
theorem dX8_act_11 : decode cX8_act 11 = .ok (.sipush 2288, 3) := by decide +kernel
theorem dX8_act_14 : decode cX8_act 14 = .ok (.if_icmp .ge 25, 3) := by decide +kernel
theorem dX8_act_17 : decode cX8_act 17 = .ok (.aload_n 0, 1) := by decide +kernel
theorem dX8_act_18 : decode cX8_act 18 = .ok (.getfield 16, 3) := by decide +kernel
theorem dX8_act_21 : decode cX8_act 21 = .ok (.iload_n 1, 1) := by decide +kernel
theorem dX8_act_22 : decode cX8_act 22 = .ok (.aload_n 0, 1) := by decide +kernel
theorem dX8_act_23 : decode cX8_act 23 = .ok (.getfield 16, 3) := by decide +kernel
theorem dX8_act_26 : decode cX8_act 26 = .ok (.iload_n 1, 1) := by decide +kernel
theorem dX8_act_27 : decode cX8_act 27 = .ok (.sipush 572, 3) := by decide +kernel
theorem dX8_act_30 : decode cX8_act 30 = .ok (.iadd, 1) := by decide +kernel
theorem dX8_act_31 : decode cX8_act 31 = .ok (.iaload, 1) := by decide +kernel
theorem dX8_act_32 : decode cX8_act 32 = .ok (.iastore, 1) := by decide +kernel
theorem dX8_act_33 : decode cX8_act 33 = .ok (.iinc 1 1, 3) := by decide +kernel
theorem dX8_act_36 : decode cX8_act 36 = .ok (.goto (-26), 3) := by decide +kernel
theorem dX8_act_39 : decode cX8_act 39 = .ok (.aload_n 0, 1) := by decide +kernel
theorem dX8_act_40 : decode cX8_act 40 = .ok (.dup, 1) := by decide +kernel
theorem dX8_act_41 : decode cX8_act 41 = .ok (.getfield 26, 3) := by decide +kernel
theorem dX8_act_44 : decode cX8_act 44 = .ok (.iconst 1, 1) := by decide +kernel
theorem dX8_act_45 : decode cX8_act 45 = .ok (.isub, 1) := by decide +kernel
theorem dX8_act_46 : decode cX8_act 46 = .ok (.putfield 26, 3) := by decide +kernel
theorem dX8_act_49 : decode cX8_act 49 = .ok (.iconst 0, 1) := by decide +kernel
theorem dX8_act_50 : decode cX8_act 50 = .ok (.istore_n 1, 1) := by decide +kernel
theorem dX8_act_51 : decode cX8_act 51 = .ok (.iload_n 1, 1) := by decide +kernel
theorem dX8_act_52 : decode cX8_act 52 = .ok (.sipush 572, 3) := by decide +kernel
theorem dX8_act_55 : decode cX8_act 55 = .ok (.if_icmp .ge 30, 3) := by decide +kernel
theorem dX8_act_58 : decode cX8_act 58 = .ok (.aload_n 0, 1) := by decide +kernel
theorem dX8_act_59 : decode cX8_act 59 = .ok (.getfield 16, 3) := by decide +kernel
theorem dX8_act_62 : decode cX8_act 62 = .ok (.sipush 572, 3) := by decide +kernel
theorem dX8_act_65 : decode cX8_act 65 = .ok (.aload_n 0, 1) := by decide +kernel
theorem dX8_act_66 : decode cX8_act 66 = .ok (.getfield 26, 3) := by decide +kernel
theorem dX8_act_69 : decode cX8_act 69 = .ok (.imul, 1) := by decide +kernel
theorem dX8_act_70 : decode cX8_act 70 = .ok (.iload_n 1, 1) := by decide +kernel
theorem dX8_act_71 : decode cX8_act 71 = .ok (.iadd, 1) := by decide +kernel
theorem dX8_act_72 : decode cX8_act 72 = .ok (.aload_n 0, 1) := by decide +kernel
theorem dX8_act_73 : decode cX8_act 73 = .ok (.getfield 7, 3) := by decide +kernel
theorem dX8_act_76 : decode cX8_act 76 = .ok (.iload_n 1, 1) := by decide +kernel
theorem dX8_act_77 : decode cX8_act 77 = .ok (.iaload, 1) := by decide +kernel
theorem dX8_act_78 : decode cX8_act 78 = .ok (.iastore, 1) := by decide +kernel
theorem dX8_act_79 : decode cX8_act 79 = .ok (.iinc 1 1, 3) := by decide +kernel
theorem dX8_act_82 : decode cX8_act 82 = .ok (.goto (-31), 3) := by decide +kernel
theorem dX8_act_85 : decode cX8_act 85 = .ok (.aload_n 0, 1) := by decide +kernel
theorem dX8_act_86 : decode cX8_act 86 = .ok (.dup, 1) := by decide +kernel
theorem dX8_act_87 : decode cX8_act 87 = .ok (.getfield 26, 3) := by decide +kernel
theorem dX8_act_90 : decode cX8_act 90 = .ok (.iconst 1, 1) := by decide +kernel
theorem dX8_act_91 : decode cX8_act 91 = .ok (.iadd, 1) := by decide +kernel
theorem dX8_act_92 : decode cX8_act 92 = .ok (.putfield 26, 3) := by decide +kernel
theorem dX8_act_95 : decode cX8_act 95 = .ok (.return_, 1) := by decide +kernel
theorem dX8_put_0 : decode cX8_put 0 = .ok (.aload_n 0, 1) := by decide +kernel
theorem dX8_put_1 : decode cX8_put 1 = .ok (.invokevirtual 29, 3) := by decide +kernel
theorem dX8_put_4 : decode cX8_put 4 = .ok (.aload_n 0, 1) := by decide +kernel
theorem dX8_put_5 : decode cX8_put 5 = .ok (.getfield 7, 3) := by decide +kernel
theorem dX8_put_8 : decode cX8_put 8 = .ok (.iload_n 1, 1) := by decide +kernel
theorem dX8_put_9 : decode cX8_put 9 = .ok (.iaload, 1) := by decide +kernel
theorem dX8_put_10 : decode cX8_put 10 = .ok (.istore_n 3, 1) := by decide +kernel
theorem dX8_put_11 : decode cX8_put 11 = .ok (.aload_n 0, 1) := by decide +kernel
theorem dX8_put_12 : decode cX8_put 12 = .ok (.getfield 7, 3) := by decide +kernel
theorem dX8_put_15 : decode cX8_put 15 = .ok (.iload_n 1, 1) := by decide +kernel
theorem dX8_put_16 : decode cX8_put 16 = .ok (.iload_n 2, 1) := by decide +kernel
theorem dX8_put_17 : decode cX8_put 17 = .ok (.iastore, 1) := by decide +kernel
theorem dX8_put_18 : decode cX8_put 18 = .ok (.iload_n 3, 1) := by decide +kernel
theorem dX8_put_19 : decode cX8_put 19 = .ok (.ireturn, 1) := by decide +kernel
theorem dX8_isCostume_0 : decode cX8_isCostume 0 = .ok (.iload_n 1, 1) := by decide +kernel
theorem dX8_isCostume_1 : decode cX8_isCostume 1 = .ok (.i2l, 1) := by decide +kernel
theorem dX8_isCostume_2 : decode cX8_isCostume 2 = .ok (.lconst 0, 1) := by decide +kernel
theorem dX8_isCostume_3 : decode cX8_isCostume 3 = .ok (.aload_n 0, 1) := by decide +kernel
theorem dX8_isCostume_4 : decode cX8_isCostume 4 = .ok (.getfield 7, 3) := by decide +kernel
theorem dX8_isCostume_7 : decode cX8_isCostume 7 = .ok (.iconst 0, 1) := by decide +kernel
theorem dX8_isCostume_8 : decode cX8_isCostume 8 = .ok (.iaload, 1) := by decide +kernel
theorem dX8_isCostume_9 : decode cX8_isCostume 9 = .ok (.iconst 1, 1) := by decide +kernel
theorem dX8_isCostume_10 : decode cX8_isCostume 10 = .ok (.isub, 1) := by decide +kernel
theorem dX8_isCostume_11 : decode cX8_isCostume 11 = .ok (.i2l, 1) := by decide +kernel
theorem dX8_isCostume_12 : decode cX8_isCostume 12 = .ok (.invokestatic 32, 3) := by decide +kernel
theorem dX8_isCostume_15 : decode cX8_isCostume 15 = .ok (.ireturn, 1) := by decide +kernel
theorem dX8_isActor_0 : decode cX8_isActor 0 = .ok (.iload_n 1, 1) := by decide +kernel
theorem dX8_isActor_1 : decode cX8_isActor 1 = .ok (.i2l, 1) := by decide +kernel
theorem dX8_isActor_2 : decode cX8_isActor 2 = .ok (.lconst 0, 1) := by decide +kernel
theorem dX8_isActor_3 : decode cX8_isActor 3 = .ok (.aload_n 0, 1) := by decide +kernel
theorem dX8_isActor_4 : decode cX8_isActor 4 = .ok (.getfield 7, 3) := by decide +kernel
theorem dX8_isActor_7 : decode cX8_isActor 7 = .ok (.iconst 1, 1) := by decide +kernel
theorem dX8_isActor_8 : decode cX8_isActor 8 = .ok (.iaload, 1) := by decide +kernel
theorem dX8_isActor_9 : decode cX8_isActor 9 = .ok (.iconst 1, 1) := by decide +kernel
theorem dX8_isActor_10 : decode cX8_isActor 10 = .ok (.isub, 1) := by decide +kernel
theorem dX8_isActor_11 : decode cX8_isActor 11 = .ok (.i2l, 1) := by decide +kernel
theorem dX8_isActor_12 : decode cX8_isActor 12 = .ok (.invokestatic 32, 3) := by decide +kernel
theorem dX8_isActor_15 : decode cX8_isActor 15 = .ok (.ireturn, 1) := by decide +kernel
theorem dX8_isScene_0 : decode cX8_isScene 0 = .ok (.iload_n 0, 1) := by decide +kernel
theorem dX8_isScene_1 : decode cX8_isScene 1 = .ok (.i2l, 1) := by decide +kernel
theorem dX8_isScene_2 : decode cX8_isScene 2 = .ok (.lconst 0, 1) := by decide +kernel
theorem dX8_isScene_3 : decode cX8_isScene 3 = .ok (.ldc2_w 36, 3) := by decide +kernel
theorem dX8_isScene_6 : decode cX8_isScene 6 = .ok (.invokestatic 32, 3) := by decide +kernel
theorem dX8_isScene_9 : decode cX8_isScene 9 = .ok (.ireturn, 1) := by decide +kernel
theorem dX8_isMeasure_0 : decode cX8_isMeasure 0 = .ok (.iload_n 0, 1) := by decide +kernel
theorem dX8_isMeasure_1 : decode cX8_isMeasure 1 = .ok (.i2l, 1) := by decide +kernel
theorem dX8_isMeasure_2 : decode cX8_isMeasure 2 = .ok (.ldc2_w 38, 3) := by decide +kernel
theorem dX8_isMeasure_5 : decode cX8_isMeasure 5 = .ok (.ldc2_w 40, 3) := by decide +kernel
theorem dX8_isMeasure_8 : decode cX8_isMeasure 8 = .ok (.invokestatic 32, 3) := by decide +kernel
theorem dX8_isMeasure_11 : decode cX8_isMeasure 11 = .ok (.ireturn, 1) := by decide +kernel
theorem dX8_of_0 : decode cX8_of 0 = .ok (.aload_n 0, 1) := by decide +kernel
theorem dX8_of_1 : decode cX8_of 1 = .ok (.getfield 7, 3) := by decide +kernel
theorem dX8_of_4 : decode cX8_of 4 = .ok (.bipush 12, 2) := by decide +kernel
theorem dX8_of_6 : decode cX8_of 6 = .ok (.bipush 20, 2) := by decide +kernel
theorem dX8_of_8 : decode cX8_of 8 = .ok (.iload_n 1, 1) := by decide +kernel
theorem dX8_of_9 : decode cX8_of 9 = .ok (.imul, 1) := by decide +kernel
theorem dX8_of_10 : decode cX8_of 10 = .ok (.iadd, 1) := by decide +kernel
theorem dX8_of_11 : decode cX8_of 11 = .ok (.iload_n 2, 1) := by decide +kernel
theorem dX8_of_12 : decode cX8_of 12 = .ok (.iadd, 1) := by decide +kernel
theorem dX8_of_13 : decode cX8_of 13 = .ok (.iaload, 1) := by decide +kernel
theorem dX8_of_14 : decode cX8_of 14 = .ok (.ireturn, 1) := by decide +kernel
theorem dX8_lay_0 : decode cX8_lay 0 = .ok (.aload_n 0, 1) := by decide +kernel
theorem dX8_lay_1 : decode cX8_lay 1 = .ok (.getfield 7, 3) := by decide +kernel
theorem dX8_lay_4 : decode cX8_lay 4 = .ok (.bipush 12, 2) := by decide +kernel
theorem dX8_lay_6 : decode cX8_lay 6 = .ok (.bipush 20, 2) := by decide +kernel
theorem dX8_lay_8 : decode cX8_lay 8 = .ok (.iload_n 1, 1) := by decide +kernel
theorem dX8_lay_9 : decode cX8_lay 9 = .ok (.imul, 1) := by decide +kernel
theorem dX8_lay_10 : decode cX8_lay 10 = .ok (.iadd, 1) := by decide +kernel
theorem dX8_lay_11 : decode cX8_lay 11 = .ok (.iload_n 2, 1) := by decide +kernel
theorem dX8_lay_12 : decode cX8_lay 12 = .ok (.iadd, 1) := by decide +kernel
theorem dX8_lay_13 : decode cX8_lay 13 = .ok (.iload_n 3, 1) := by decide +kernel
theorem dX8_lay_14 : decode cX8_lay 14 = .ok (.iastore, 1) := by decide +kernel
theorem dX8_lay_15 : decode cX8_lay 15 = .ok (.return_, 1) := by decide +kernel
theorem dX8_measureOf_0 : decode cX8_measureOf 0 = .ok (.aload_n 0, 1) := by decide +kernel
theorem dX8_measureOf_1 : decode cX8_measureOf 1 = .ok (.getfield 7, 3) := by decide +kernel
theorem dX8_measureOf_4 : decode cX8_measureOf 4 = .ok (.sipush 332, 3) := by decide +kernel
theorem dX8_measureOf_7 : decode cX8_measureOf 7 = .ok (.iconst 3, 1) := by decide +kernel
theorem dX8_measureOf_8 : decode cX8_measureOf 8 = .ok (.iload_n 1, 1) := by decide +kernel
theorem dX8_measureOf_9 : decode cX8_measureOf 9 = .ok (.imul, 1) := by decide +kernel
theorem dX8_measureOf_10 : decode cX8_measureOf 10 = .ok (.iadd, 1) := by decide +kernel
theorem dX8_measureOf_11 : decode cX8_measureOf 11 = .ok (.iload_n 2, 1) := by decide +kernel
theorem dX8_measureOf_12 : decode cX8_measureOf 12 = .ok (.iadd, 1) := by decide +kernel
theorem dX8_measureOf_13 : decode cX8_measureOf 13 = .ok (.iaload, 1) := by decide +kernel
theorem dX8_measureOf_14 : decode cX8_measureOf 14 = .ok (.ireturn, 1) := by decide +kernel
theorem dX8_worn_0 : decode cX8_worn 0 = .ok (.aload_n 0, 1) := by decide +kernel
theorem dX8_worn_1 : decode cX8_worn 1 = .ok (.getfield 7, 3) := by decide +kernel
theorem dX8_worn_4 : decode cX8_worn 4 = .ok (.sipush 356, 3) := by decide +kernel
theorem dX8_worn_7 : decode cX8_worn 7 = .ok (.bipush 8, 2) := by decide +kernel
theorem dX8_worn_9 : decode cX8_worn 9 = .ok (.iload_n 1, 1) := by decide +kernel
theorem dX8_worn_10 : decode cX8_worn 10 = .ok (.imul, 1) := by decide +kernel
theorem dX8_worn_11 : decode cX8_worn 11 = .ok (.iadd, 1) := by decide +kernel
theorem dX8_worn_12 : decode cX8_worn 12 = .ok (.iload_n 2, 1) := by decide +kernel
theorem dX8_worn_13 : decode cX8_worn 13 = .ok (.iadd, 1) := by decide +kernel
theorem dX8_worn_14 : decode cX8_worn 14 = .ok (.iaload, 1) := by decide +kernel
theorem dX8_worn_15 : decode cX8_worn 15 = .ok (.ireturn, 1) := by decide +kernel
theorem dX8_ofHire_0 : decode cX8_ofHire 0 = .ok (.aload_n 0, 1) := by decide +kernel
theorem dX8_ofHire_1 : decode cX8_ofHire 1 = .ok (.getfield 7, 3) := by decide +kernel
theorem dX8_ofHire_4 : decode cX8_ofHire 4 = .ok (.sipush 452, 3) := by decide +kernel
theorem dX8_ofHire_7 : decode cX8_ofHire 7 = .ok (.iconst 5, 1) := by decide +kernel
theorem dX8_ofHire_8 : decode cX8_ofHire 8 = .ok (.iload_n 1, 1) := by decide +kernel
theorem dX8_ofHire_9 : decode cX8_ofHire 9 = .ok (.imul, 1) := by decide +kernel
theorem dX8_ofHire_10 : decode cX8_ofHire 10 = .ok (.iadd, 1) := by decide +kernel
theorem dX8_ofHire_11 : decode cX8_ofHire 11 = .ok (.iload_n 2, 1) := by decide +kernel
theorem dX8_ofHire_12 : decode cX8_ofHire 12 = .ok (.iadd, 1) := by decide +kernel
theorem dX8_ofHire_13 : decode cX8_ofHire 13 = .ok (.iaload, 1) := by decide +kernel
theorem dX8_ofHire_14 : decode cX8_ofHire 14 = .ok (.ireturn, 1) := by decide +kernel
theorem dX8_makeCostume_0 : decode cX8_makeCostume 0 = .ok (.aload_n 0, 1) := by decide +kernel
theorem dX8_makeCostume_1 : decode cX8_makeCostume 1 = .ok (.getfield 7, 3) := by decide +kernel
theorem dX8_makeCostume_4 : decode cX8_makeCostume 4 = .ok (.iconst 0, 1) := by decide +kernel
theorem dX8_makeCostume_5 : decode cX8_makeCostume 5 = .ok (.iaload, 1) := by decide +kernel
theorem dX8_makeCostume_6 : decode cX8_makeCostume 6 = .ok (.istore 7, 2) := by decide +kernel
theorem dX8_makeCostume_8 : decode cX8_makeCostume 8 = .ok (.aload_n 0, 1) := by decide +kernel
theorem dX8_makeCostume_9 : decode cX8_makeCostume 9 = .ok (.getfield 7, 3) := by decide +kernel
theorem dX8_makeCostume_12 : decode cX8_makeCostume 12 = .ok (.iconst 0, 1) := by decide +kernel
theorem dX8_makeCostume_13 : decode cX8_makeCostume 13 = .ok (.dup2, 1) := by decide +kernel
theorem dX8_makeCostume_14 : decode cX8_makeCostume 14 = .ok (.iaload, 1) := by decide +kernel
theorem dX8_makeCostume_15 : decode cX8_makeCostume 15 = .ok (.iconst 1, 1) := by decide +kernel
theorem dX8_makeCostume_16 : decode cX8_makeCostume 16 = .ok (.iadd, 1) := by decide +kernel
theorem dX8_makeCostume_17 : decode cX8_makeCostume 17 = .ok (.iastore, 1) := by decide +kernel
theorem dX8_makeCostume_18 : decode cX8_makeCostume 18 = .ok (.iconst 0, 1) := by decide +kernel
theorem dX8_makeCostume_19 : decode cX8_makeCostume 19 = .ok (.istore 8, 2) := by decide +kernel
theorem dX8_makeCostume_21 : decode cX8_makeCostume 21 = .ok (.iload 8, 2) := by decide +kernel
theorem dX8_makeCostume_23 : decode cX8_makeCostume 23 = .ok (.bipush 20, 2) := by decide +kernel
theorem dX8_makeCostume_25 : decode cX8_makeCostume 25 = .ok (.if_icmp .ge 18, 3) := by decide +kernel
theorem dX8_makeCostume_28 : decode cX8_makeCostume 28 = .ok (.aload_n 0, 1) := by decide +kernel
theorem dX8_makeCostume_29 : decode cX8_makeCostume 29 = .ok (.iload 7, 2) := by decide +kernel
theorem dX8_makeCostume_31 : decode cX8_makeCostume 31 = .ok (.iload 8, 2) := by decide +kernel
theorem dX8_makeCostume_33 : decode cX8_makeCostume 33 = .ok (.iconst 0, 1) := by decide +kernel
theorem dX8_makeCostume_34 : decode cX8_makeCostume 34 = .ok (.invokevirtual 42, 3) := by decide +kernel
theorem dX8_makeCostume_37 : decode cX8_makeCostume 37 = .ok (.iinc 8 1, 3) := by decide +kernel
theorem dX8_makeCostume_40 : decode cX8_makeCostume 40 = .ok (.goto (-19), 3) := by decide +kernel
theorem dX8_makeCostume_43 : decode cX8_makeCostume 43 = .ok (.aload_n 0, 1) := by decide +kernel
theorem dX8_makeCostume_44 : decode cX8_makeCostume 44 = .ok (.iload 7, 2) := by decide +kernel
theorem dX8_makeCostume_46 : decode cX8_makeCostume 46 = .ok (.iconst 0, 1) := by decide +kernel
theorem dX8_makeCostume_47 : decode cX8_makeCostume 47 = .ok (.iload_n 1, 1) := by decide +kernel
theorem dX8_makeCostume_48 : decode cX8_makeCostume 48 = .ok (.invokevirtual 42, 3) := by decide +kernel
theorem dX8_makeCostume_51 : decode cX8_makeCostume 51 = .ok (.aload_n 0, 1) := by decide +kernel
theorem dX8_makeCostume_52 : decode cX8_makeCostume 52 = .ok (.iload 7, 2) := by decide +kernel
theorem dX8_makeCostume_54 : decode cX8_makeCostume 54 = .ok (.iconst 1, 1) := by decide +kernel
theorem dX8_makeCostume_55 : decode cX8_makeCostume 55 = .ok (.iload_n 2, 1) := by decide +kernel
theorem dX8_makeCostume_56 : decode cX8_makeCostume 56 = .ok (.invokevirtual 42, 3) := by decide +kernel
theorem dX8_makeCostume_59 : decode cX8_makeCostume 59 = .ok (.aload_n 0, 1) := by decide +kernel
theorem dX8_makeCostume_60 : decode cX8_makeCostume 60 = .ok (.iload 7, 2) := by decide +kernel
theorem dX8_makeCostume_62 : decode cX8_makeCostume 62 = .ok (.iconst 2, 1) := by decide +kernel
theorem dX8_makeCostume_63 : decode cX8_makeCostume 63 = .ok (.iload_n 3, 1) := by decide +kernel
theorem dX8_makeCostume_64 : decode cX8_makeCostume 64 = .ok (.invokevirtual 42, 3) := by decide +kernel
theorem dX8_makeCostume_67 : decode cX8_makeCostume 67 = .ok (.aload_n 0, 1) := by decide +kernel
theorem dX8_makeCostume_68 : decode cX8_makeCostume 68 = .ok (.iload 7, 2) := by decide +kernel
theorem dX8_makeCostume_70 : decode cX8_makeCostume 70 = .ok (.iconst 3, 1) := by decide +kernel
theorem dX8_makeCostume_71 : decode cX8_makeCostume 71 = .ok (.iload 4, 2) := by decide +kernel
theorem dX8_makeCostume_73 : decode cX8_makeCostume 73 = .ok (.invokevirtual 42, 3) := by decide +kernel
theorem dX8_makeCostume_76 : decode cX8_makeCostume 76 = .ok (.aload_n 0, 1) := by decide +kernel
theorem dX8_makeCostume_77 : decode cX8_makeCostume 77 = .ok (.iload 7, 2) := by decide +kernel
theorem dX8_makeCostume_79 : decode cX8_makeCostume 79 = .ok (.iconst 4, 1) := by decide +kernel
theorem dX8_makeCostume_80 : decode cX8_makeCostume 80 = .ok (.iload 5, 2) := by decide +kernel
theorem dX8_makeCostume_82 : decode cX8_makeCostume 82 = .ok (.invokevirtual 42, 3) := by decide +kernel
theorem dX8_makeCostume_85 : decode cX8_makeCostume 85 = .ok (.aload_n 0, 1) := by decide +kernel
theorem dX8_makeCostume_86 : decode cX8_makeCostume 86 = .ok (.iload 7, 2) := by decide +kernel
theorem dX8_makeCostume_88 : decode cX8_makeCostume 88 = .ok (.iconst 5, 1) := by decide +kernel
theorem dX8_makeCostume_89 : decode cX8_makeCostume 89 = .ok (.iload 6, 2) := by decide +kernel
theorem dX8_makeCostume_91 : decode cX8_makeCostume 91 = .ok (.invokevirtual 42, 3) := by decide +kernel
theorem dX8_makeCostume_94 : decode cX8_makeCostume 94 = .ok (.iload 7, 2) := by decide +kernel
theorem dX8_makeCostume_96 : decode cX8_makeCostume 96 = .ok (.ireturn, 1) := by decide +kernel
theorem dX8_makeActor_0 : decode cX8_makeActor 0 = .ok (.aload_n 0, 1) := by decide +kernel
theorem dX8_makeActor_1 : decode cX8_makeActor 1 = .ok (.getfield 7, 3) := by decide +kernel
theorem dX8_makeActor_4 : decode cX8_makeActor 4 = .ok (.iconst 1, 1) := by decide +kernel
theorem dX8_makeActor_5 : decode cX8_makeActor 5 = .ok (.iaload, 1) := by decide +kernel
theorem dX8_makeActor_6 : decode cX8_makeActor 6 = .ok (.istore 4, 2) := by decide +kernel
theorem dX8_makeActor_8 : decode cX8_makeActor 8 = .ok (.aload_n 0, 1) := by decide +kernel
theorem dX8_makeActor_9 : decode cX8_makeActor 9 = .ok (.getfield 7, 3) := by decide +kernel
theorem dX8_makeActor_12 : decode cX8_makeActor 12 = .ok (.iconst 1, 1) := by decide +kernel
theorem dX8_makeActor_13 : decode cX8_makeActor 13 = .ok (.dup2, 1) := by decide +kernel
theorem dX8_makeActor_14 : decode cX8_makeActor 14 = .ok (.iaload, 1) := by decide +kernel
theorem dX8_makeActor_15 : decode cX8_makeActor 15 = .ok (.iconst 1, 1) := by decide +kernel
theorem dX8_makeActor_16 : decode cX8_makeActor 16 = .ok (.iadd, 1) := by decide +kernel
theorem dX8_makeActor_17 : decode cX8_makeActor 17 = .ok (.iastore, 1) := by decide +kernel
theorem dX8_makeActor_18 : decode cX8_makeActor 18 = .ok (.aload_n 0, 1) := by decide +kernel
theorem dX8_makeActor_19 : decode cX8_makeActor 19 = .ok (.getfield 7, 3) := by decide +kernel
theorem dX8_makeActor_22 : decode cX8_makeActor 22 = .ok (.sipush 332, 3) := by decide +kernel
theorem dX8_makeActor_25 : decode cX8_makeActor 25 = .ok (.iconst 3, 1) := by decide +kernel
theorem dX8_makeActor_26 : decode cX8_makeActor 26 = .ok (.iload 4, 2) := by decide +kernel
theorem dX8_makeActor_28 : decode cX8_makeActor 28 = .ok (.imul, 1) := by decide +kernel
theorem dX8_makeActor_29 : decode cX8_makeActor 29 = .ok (.iadd, 1) := by decide +kernel
theorem dX8_makeActor_30 : decode cX8_makeActor 30 = .ok (.iload_n 1, 1) := by decide +kernel
theorem dX8_makeActor_31 : decode cX8_makeActor 31 = .ok (.iastore, 1) := by decide +kernel
theorem dX8_makeActor_32 : decode cX8_makeActor 32 = .ok (.aload_n 0, 1) := by decide +kernel
theorem dX8_makeActor_33 : decode cX8_makeActor 33 = .ok (.getfield 7, 3) := by decide +kernel
theorem dX8_makeActor_36 : decode cX8_makeActor 36 = .ok (.sipush 332, 3) := by decide +kernel
theorem dX8_makeActor_39 : decode cX8_makeActor 39 = .ok (.iconst 3, 1) := by decide +kernel
theorem dX8_makeActor_40 : decode cX8_makeActor 40 = .ok (.iload 4, 2) := by decide +kernel
theorem dX8_makeActor_42 : decode cX8_makeActor 42 = .ok (.imul, 1) := by decide +kernel
theorem dX8_makeActor_43 : decode cX8_makeActor 43 = .ok (.iadd, 1) := by decide +kernel
theorem dX8_makeActor_44 : decode cX8_makeActor 44 = .ok (.iconst 1, 1) := by decide +kernel
theorem dX8_makeActor_45 : decode cX8_makeActor 45 = .ok (.iadd, 1) := by decide +kernel
theorem dX8_makeActor_46 : decode cX8_makeActor 46 = .ok (.iload_n 2, 1) := by decide +kernel
theorem dX8_makeActor_47 : decode cX8_makeActor 47 = .ok (.iastore, 1) := by decide +kernel
theorem dX8_makeActor_48 : decode cX8_makeActor 48 = .ok (.aload_n 0, 1) := by decide +kernel
theorem dX8_makeActor_49 : decode cX8_makeActor 49 = .ok (.getfield 7, 3) := by decide +kernel
theorem dX8_makeActor_52 : decode cX8_makeActor 52 = .ok (.sipush 332, 3) := by decide +kernel
theorem dX8_makeActor_55 : decode cX8_makeActor 55 = .ok (.iconst 3, 1) := by decide +kernel
theorem dX8_makeActor_56 : decode cX8_makeActor 56 = .ok (.iload 4, 2) := by decide +kernel
theorem dX8_makeActor_58 : decode cX8_makeActor 58 = .ok (.imul, 1) := by decide +kernel
theorem dX8_makeActor_59 : decode cX8_makeActor 59 = .ok (.iadd, 1) := by decide +kernel
theorem dX8_makeActor_60 : decode cX8_makeActor 60 = .ok (.iconst 2, 1) := by decide +kernel
theorem dX8_makeActor_61 : decode cX8_makeActor 61 = .ok (.iadd, 1) := by decide +kernel
theorem dX8_makeActor_62 : decode cX8_makeActor 62 = .ok (.iload_n 3, 1) := by decide +kernel
theorem dX8_makeActor_63 : decode cX8_makeActor 63 = .ok (.iastore, 1) := by decide +kernel
theorem dX8_makeActor_64 : decode cX8_makeActor 64 = .ok (.iconst 0, 1) := by decide +kernel
theorem dX8_makeActor_65 : decode cX8_makeActor 65 = .ok (.istore 5, 2) := by decide +kernel
theorem dX8_makeActor_67 : decode cX8_makeActor 67 = .ok (.iload 5, 2) := by decide +kernel
theorem dX8_makeActor_69 : decode cX8_makeActor 69 = .ok (.bipush 12, 2) := by decide +kernel
theorem dX8_makeActor_71 : decode cX8_makeActor 71 = .ok (.if_icmp .ge 27, 3) := by decide +kernel
theorem dX8_makeActor_74 : decode cX8_makeActor 74 = .ok (.aload_n 0, 1) := by decide +kernel
theorem dX8_makeActor_75 : decode cX8_makeActor 75 = .ok (.getfield 7, 3) := by decide +kernel
theorem dX8_makeActor_78 : decode cX8_makeActor 78 = .ok (.sipush 356, 3) := by decide +kernel
theorem dX8_makeActor_81 : decode cX8_makeActor 81 = .ok (.bipush 8, 2) := by decide +kernel
theorem dX8_makeActor_83 : decode cX8_makeActor 83 = .ok (.iload 5, 2) := by decide +kernel
theorem dX8_makeActor_85 : decode cX8_makeActor 85 = .ok (.imul, 1) := by decide +kernel
theorem dX8_makeActor_86 : decode cX8_makeActor 86 = .ok (.iadd, 1) := by decide +kernel
theorem dX8_makeActor_87 : decode cX8_makeActor 87 = .ok (.iload 4, 2) := by decide +kernel
theorem dX8_makeActor_89 : decode cX8_makeActor 89 = .ok (.iadd, 1) := by decide +kernel
theorem dX8_makeActor_90 : decode cX8_makeActor 90 = .ok (.iconst (-1), 1) := by decide +kernel
theorem dX8_makeActor_91 : decode cX8_makeActor 91 = .ok (.iastore, 1) := by decide +kernel
theorem dX8_makeActor_92 : decode cX8_makeActor 92 = .ok (.iinc 5 1, 3) := by decide +kernel
theorem dX8_makeActor_95 : decode cX8_makeActor 95 = .ok (.goto (-28), 3) := by decide +kernel
theorem dX8_makeActor_98 : decode cX8_makeActor 98 = .ok (.iload 4, 2) := by decide +kernel
theorem dX8_makeActor_100 : decode cX8_makeActor 100 = .ok (.ireturn, 1) := by decide +kernel
theorem dX8_addCostume_0 : decode cX8_addCostume 0 = .ok (.aload_n 0, 1) := by decide +kernel
theorem dX8_addCostume_1 : decode cX8_addCostume 1 = .ok (.iconst 0, 1) := by decide +kernel
theorem dX8_addCostume_2 : decode cX8_addCostume 2 = .ok (.putfield 22, 3) := by decide +kernel
theorem dX8_addCostume_5 : decode cX8_addCostume 5 = .ok (.iload_n 1, 1) := by decide +kernel
theorem dX8_addCostume_6 : decode cX8_addCostume 6 = .ok (.invokestatic 46, 3) := by decide +kernel
theorem dX8_addCostume_9 : decode cX8_addCostume 9 = .ok (.ifCond .eq 43, 3) := by decide +kernel
theorem dX8_addCostume_12 : decode cX8_addCostume 12 = .ok (.iload_n 2, 1) := by decide +kernel
theorem dX8_addCostume_13 : decode cX8_addCostume 13 = .ok (.invokestatic 46, 3) := by decide +kernel
theorem dX8_addCostume_16 : decode cX8_addCostume 16 = .ok (.ifCond .eq 36, 3) := by decide +kernel
theorem dX8_addCostume_19 : decode cX8_addCostume 19 = .ok (.iload_n 3, 1) := by decide +kernel
theorem dX8_addCostume_20 : decode cX8_addCostume 20 = .ok (.invokestatic 46, 3) := by decide +kernel
theorem dX8_addCostume_23 : decode cX8_addCostume 23 = .ok (.ifCond .eq 29, 3) := by decide +kernel
theorem dX8_addCostume_26 : decode cX8_addCostume 26 = .ok (.iload 4, 2) := by decide +kernel
theorem dX8_addCostume_28 : decode cX8_addCostume 28 = .ok (.i2l, 1) := by decide +kernel
theorem dX8_addCostume_29 : decode cX8_addCostume 29 = .ok (.lconst 0, 1) := by decide +kernel
theorem dX8_addCostume_30 : decode cX8_addCostume 30 = .ok (.ldc2_w 50, 3) := by decide +kernel
theorem dX8_addCostume_33 : decode cX8_addCostume 33 = .ok (.invokestatic 32, 3) := by decide +kernel
theorem dX8_addCostume_36 : decode cX8_addCostume 36 = .ok (.ifCond .eq 16, 3) := by decide +kernel
theorem dX8_addCostume_39 : decode cX8_addCostume 39 = .ok (.iload 5, 2) := by decide +kernel
theorem dX8_addCostume_41 : decode cX8_addCostume 41 = .ok (.i2l, 1) := by decide +kernel
theorem dX8_addCostume_42 : decode cX8_addCostume 42 = .ok (.lconst 0, 1) := by decide +kernel
theorem dX8_addCostume_43 : decode cX8_addCostume 43 = .ok (.ldc2_w 52, 3) := by decide +kernel
theorem dX8_addCostume_46 : decode cX8_addCostume 46 = .ok (.invokestatic 32, 3) := by decide +kernel
theorem dX8_addCostume_49 : decode cX8_addCostume 49 = .ok (.ifCond .ne 7, 3) := by decide +kernel
theorem dX8_addCostume_52 : decode cX8_addCostume 52 = .ok (.sipush (-2001), 3) := by decide +kernel
theorem dX8_addCostume_55 : decode cX8_addCostume 55 = .ok (.ireturn, 1) := by decide +kernel
theorem dX8_addCostume_56 : decode cX8_addCostume 56 = .ok (.aload_n 0, 1) := by decide +kernel
theorem dX8_addCostume_57 : decode cX8_addCostume 57 = .ok (.getfield 7, 3) := by decide +kernel
theorem dX8_addCostume_60 : decode cX8_addCostume 60 = .ok (.iconst 0, 1) := by decide +kernel
theorem dX8_addCostume_61 : decode cX8_addCostume 61 = .ok (.iaload, 1) := by decide +kernel
theorem dX8_addCostume_62 : decode cX8_addCostume 62 = .ok (.bipush 16, 2) := by decide +kernel
theorem dX8_addCostume_64 : decode cX8_addCostume 64 = .ok (.if_icmp .ne 7, 3) := by decide +kernel
theorem dX8_addCostume_67 : decode cX8_addCostume 67 = .ok (.sipush (-2003), 3) := by decide +kernel
theorem dX8_addCostume_70 : decode cX8_addCostume 70 = .ok (.ireturn, 1) := by decide +kernel
theorem dX8_addCostume_71 : decode cX8_addCostume 71 = .ok (.aload_n 0, 1) := by decide +kernel
theorem dX8_addCostume_72 : decode cX8_addCostume 72 = .ok (.invokevirtual 29, 3) := by decide +kernel
theorem dX8_addCostume_75 : decode cX8_addCostume 75 = .ok (.aload_n 0, 1) := by decide +kernel
theorem dX8_addCostume_76 : decode cX8_addCostume 76 = .ok (.iload_n 1, 1) := by decide +kernel
theorem dX8_addCostume_77 : decode cX8_addCostume 77 = .ok (.iload_n 2, 1) := by decide +kernel
theorem dX8_addCostume_78 : decode cX8_addCostume 78 = .ok (.iload_n 3, 1) := by decide +kernel
theorem dX8_addCostume_79 : decode cX8_addCostume 79 = .ok (.iload 4, 2) := by decide +kernel
theorem dX8_addCostume_81 : decode cX8_addCostume 81 = .ok (.iload 5, 2) := by decide +kernel
theorem dX8_addCostume_83 : decode cX8_addCostume 83 = .ok (.iconst 0, 1) := by decide +kernel
theorem dX8_addCostume_84 : decode cX8_addCostume 84 = .ok (.invokevirtual 54, 3) := by decide +kernel
theorem dX8_addCostume_87 : decode cX8_addCostume 87 = .ok (.ireturn, 1) := by decide +kernel
theorem dX8_setColor_0 : decode cX8_setColor 0 = .ok (.aload_n 0, 1) := by decide +kernel
theorem dX8_setColor_1 : decode cX8_setColor 1 = .ok (.iconst 0, 1) := by decide +kernel
theorem dX8_setColor_2 : decode cX8_setColor 2 = .ok (.putfield 22, 3) := by decide +kernel
theorem dX8_setColor_5 : decode cX8_setColor 5 = .ok (.aload_n 0, 1) := by decide +kernel
theorem dX8_setColor_6 : decode cX8_setColor 6 = .ok (.iload_n 1, 1) := by decide +kernel
theorem dX8_setColor_7 : decode cX8_setColor 7 = .ok (.invokevirtual 58, 3) := by decide +kernel
theorem dX8_setColor_10 : decode cX8_setColor 10 = .ok (.ifCond .eq 30, 3) := by decide +kernel
theorem dX8_setColor_13 : decode cX8_setColor 13 = .ok (.iload_n 2, 1) := by decide +kernel
theorem dX8_setColor_14 : decode cX8_setColor 14 = .ok (.i2l, 1) := by decide +kernel
theorem dX8_setColor_15 : decode cX8_setColor 15 = .ok (.lconst 0, 1) := by decide +kernel
theorem dX8_setColor_16 : decode cX8_setColor 16 = .ok (.lconst 1, 1) := by decide +kernel
theorem dX8_setColor_17 : decode cX8_setColor 17 = .ok (.invokestatic 32, 3) := by decide +kernel
theorem dX8_setColor_20 : decode cX8_setColor 20 = .ok (.ifCond .eq 20, 3) := by decide +kernel
theorem dX8_setColor_23 : decode cX8_setColor 23 = .ok (.aload_n 0, 1) := by decide +kernel
theorem dX8_setColor_24 : decode cX8_setColor 24 = .ok (.bipush 12, 2) := by decide +kernel
theorem dX8_setColor_26 : decode cX8_setColor 26 = .ok (.bipush 20, 2) := by decide +kernel
theorem dX8_setColor_28 : decode cX8_setColor 28 = .ok (.iload_n 1, 1) := by decide +kernel
theorem dX8_setColor_29 : decode cX8_setColor 29 = .ok (.imul, 1) := by decide +kernel
theorem dX8_setColor_30 : decode cX8_setColor 30 = .ok (.iadd, 1) := by decide +kernel
theorem dX8_setColor_31 : decode cX8_setColor 31 = .ok (.iconst 5, 1) := by decide +kernel
theorem dX8_setColor_32 : decode cX8_setColor 32 = .ok (.iadd, 1) := by decide +kernel
theorem dX8_setColor_33 : decode cX8_setColor 33 = .ok (.iload_n 2, 1) := by decide +kernel
theorem dX8_setColor_34 : decode cX8_setColor 34 = .ok (.invokevirtual 61, 3) := by decide +kernel
theorem dX8_setColor_37 : decode cX8_setColor 37 = .ok (.goto 6, 3) := by decide +kernel
theorem dX8_setColor_40 : decode cX8_setColor 40 = .ok (.sipush (-2001), 3) := by decide +kernel
theorem dX8_setColor_43 : decode cX8_setColor 43 = .ok (.ireturn, 1) := by decide +kernel
theorem dX8_addActor_0 : decode cX8_addActor 0 = .ok (.aload_n 0, 1) := by decide +kernel
theorem dX8_addActor_1 : decode cX8_addActor 1 = .ok (.iconst 0, 1) := by decide +kernel
theorem dX8_addActor_2 : decode cX8_addActor 2 = .ok (.putfield 22, 3) := by decide +kernel
theorem dX8_addActor_5 : decode cX8_addActor 5 = .ok (.iload_n 1, 1) := by decide +kernel
theorem dX8_addActor_6 : decode cX8_addActor 6 = .ok (.invokestatic 46, 3) := by decide +kernel
theorem dX8_addActor_9 : decode cX8_addActor 9 = .ok (.ifCond .eq 17, 3) := by decide +kernel
theorem dX8_addActor_12 : decode cX8_addActor 12 = .ok (.iload_n 2, 1) := by decide +kernel
theorem dX8_addActor_13 : decode cX8_addActor 13 = .ok (.invokestatic 46, 3) := by decide +kernel
theorem dX8_addActor_16 : decode cX8_addActor 16 = .ok (.ifCond .eq 10, 3) := by decide +kernel
theorem dX8_addActor_19 : decode cX8_addActor 19 = .ok (.iload_n 3, 1) := by decide +kernel
theorem dX8_addActor_20 : decode cX8_addActor 20 = .ok (.invokestatic 46, 3) := by decide +kernel
theorem dX8_addActor_23 : decode cX8_addActor 23 = .ok (.ifCond .ne 7, 3) := by decide +kernel
theorem dX8_addActor_26 : decode cX8_addActor 26 = .ok (.sipush (-2001), 3) := by decide +kernel
theorem dX8_addActor_29 : decode cX8_addActor 29 = .ok (.ireturn, 1) := by decide +kernel
theorem dX8_addActor_30 : decode cX8_addActor 30 = .ok (.aload_n 0, 1) := by decide +kernel
theorem dX8_addActor_31 : decode cX8_addActor 31 = .ok (.getfield 7, 3) := by decide +kernel
theorem dX8_addActor_34 : decode cX8_addActor 34 = .ok (.iconst 1, 1) := by decide +kernel
theorem dX8_addActor_35 : decode cX8_addActor 35 = .ok (.iaload, 1) := by decide +kernel
theorem dX8_addActor_36 : decode cX8_addActor 36 = .ok (.bipush 8, 2) := by decide +kernel
theorem dX8_addActor_38 : decode cX8_addActor 38 = .ok (.if_icmp .ne 7, 3) := by decide +kernel
theorem dX8_addActor_41 : decode cX8_addActor 41 = .ok (.sipush (-2003), 3) := by decide +kernel
theorem dX8_addActor_44 : decode cX8_addActor 44 = .ok (.ireturn, 1) := by decide +kernel
theorem dX8_addActor_45 : decode cX8_addActor 45 = .ok (.aload_n 0, 1) := by decide +kernel
theorem dX8_addActor_46 : decode cX8_addActor 46 = .ok (.invokevirtual 29, 3) := by decide +kernel
theorem dX8_addActor_49 : decode cX8_addActor 49 = .ok (.aload_n 0, 1) := by decide +kernel
theorem dX8_addActor_50 : decode cX8_addActor 50 = .ok (.iload_n 1, 1) := by decide +kernel
theorem dX8_addActor_51 : decode cX8_addActor 51 = .ok (.iload_n 2, 1) := by decide +kernel
theorem dX8_addActor_52 : decode cX8_addActor 52 = .ok (.iload_n 3, 1) := by decide +kernel
theorem dX8_addActor_53 : decode cX8_addActor 53 = .ok (.invokevirtual 65, 3) := by decide +kernel
theorem dX8_addActor_56 : decode cX8_addActor 56 = .ok (.ireturn, 1) := by decide +kernel
theorem dX8_set_0 : decode cX8_set 0 = .ok (.aload_n 0, 1) := by decide +kernel
theorem dX8_set_1 : decode cX8_set 1 = .ok (.iconst 0, 1) := by decide +kernel
theorem dX8_set_2 : decode cX8_set 2 = .ok (.putfield 22, 3) := by decide +kernel
theorem dX8_set_5 : decode cX8_set 5 = .ok (.iload_n 1, 1) := by decide +kernel
theorem dX8_set_6 : decode cX8_set 6 = .ok (.iconst 3, 1) := by decide +kernel
theorem dX8_set_7 : decode cX8_set 7 = .ok (.if_icmp .ne 15, 3) := by decide +kernel
theorem dX8_set_10 : decode cX8_set 10 = .ok (.iload_n 2, 1) := by decide +kernel
theorem dX8_set_11 : decode cX8_set 11 = .ok (.i2l, 1) := by decide +kernel
theorem dX8_set_12 : decode cX8_set 12 = .ok (.lconst 1, 1) := by decide +kernel
theorem dX8_set_13 : decode cX8_set 13 = .ok (.ldc2_w 69, 3) := by decide +kernel
theorem dX8_set_16 : decode cX8_set 16 = .ok (.invokestatic 32, 3) := by decide +kernel
theorem dX8_set_19 : decode cX8_set 19 = .ok (.goto 32, 3) := by decide +kernel
theorem dX8_set_22 : decode cX8_set 22 = .ok (.iload_n 1, 1) := by decide +kernel
theorem dX8_set_23 : decode cX8_set 23 = .ok (.i2l, 1) := by decide +kernel
theorem dX8_set_24 : decode cX8_set 24 = .ok (.lconst 0, 1) := by decide +kernel
theorem dX8_set_25 : decode cX8_set 25 = .ok (.ldc2_w 71, 3) := by decide +kernel
theorem dX8_set_28 : decode cX8_set 28 = .ok (.invokestatic 32, 3) := by decide +kernel
theorem dX8_set_31 : decode cX8_set 31 = .ok (.ifCond .eq 19, 3) := by decide +kernel
theorem dX8_set_34 : decode cX8_set 34 = .ok (.iload_n 2, 1) := by decide +kernel
theorem dX8_set_35 : decode cX8_set 35 = .ok (.i2l, 1) := by decide +kernel
theorem dX8_set_36 : decode cX8_set 36 = .ok (.lconst 0, 1) := by decide +kernel
theorem dX8_set_37 : decode cX8_set 37 = .ok (.ldc2_w 73, 3) := by decide +kernel
theorem dX8_set_40 : decode cX8_set 40 = .ok (.invokestatic 32, 3) := by decide +kernel
theorem dX8_set_43 : decode cX8_set 43 = .ok (.ifCond .eq 7, 3) := by decide +kernel
theorem dX8_set_46 : decode cX8_set 46 = .ok (.iconst 1, 1) := by decide +kernel
theorem dX8_set_47 : decode cX8_set 47 = .ok (.goto 4, 3) := by decide +kernel
theorem dX8_set_50 : decode cX8_set 50 = .ok (.iconst 0, 1) := by decide +kernel
theorem dX8_set_51 : decode cX8_set 51 = .ok (.istore_n 3, 1) := by decide +kernel
theorem dX8_set_52 : decode cX8_set 52 = .ok (.iload_n 3, 1) := by decide +kernel
theorem dX8_set_53 : decode cX8_set 53 = .ok (.ifCond .eq 15, 3) := by decide +kernel
theorem dX8_set_56 : decode cX8_set 56 = .ok (.aload_n 0, 1) := by decide +kernel
theorem dX8_set_57 : decode cX8_set 57 = .ok (.bipush 8, 2) := by decide +kernel
theorem dX8_set_59 : decode cX8_set 59 = .ok (.iload_n 1, 1) := by decide +kernel
theorem dX8_set_60 : decode cX8_set 60 = .ok (.iadd, 1) := by decide +kernel
theorem dX8_set_61 : decode cX8_set 61 = .ok (.iload_n 2, 1) := by decide +kernel
theorem dX8_set_62 : decode cX8_set 62 = .ok (.invokevirtual 61, 3) := by decide +kernel
theorem dX8_set_65 : decode cX8_set 65 = .ok (.goto 6, 3) := by decide +kernel
theorem dX8_set_68 : decode cX8_set 68 = .ok (.sipush (-2001), 3) := by decide +kernel
theorem dX8_set_71 : decode cX8_set 71 = .ok (.ireturn, 1) := by decide +kernel
theorem dX8_present_0 : decode cX8_present 0 = .ok (.aload_n 0, 1) := by decide +kernel
theorem dX8_present_1 : decode cX8_present 1 = .ok (.iload_n 1, 1) := by decide +kernel
theorem dX8_present_2 : decode cX8_present 2 = .ok (.iload_n 2, 1) := by decide +kernel
theorem dX8_present_3 : decode cX8_present 3 = .ok (.invokevirtual 75, 3) := by decide +kernel
theorem dX8_present_6 : decode cX8_present 6 = .ok (.istore_n 3, 1) := by decide +kernel
theorem dX8_present_7 : decode cX8_present 7 = .ok (.iconst 0, 1) := by decide +kernel
theorem dX8_present_8 : decode cX8_present 8 = .ok (.istore 4, 2) := by decide +kernel
theorem dX8_present_10 : decode cX8_present 10 = .ok (.iload 4, 2) := by decide +kernel
theorem dX8_present_12 : decode cX8_present 12 = .ok (.aload_n 0, 1) := by decide +kernel
theorem dX8_present_13 : decode cX8_present 13 = .ok (.iload_n 1, 1) := by decide +kernel
theorem dX8_present_14 : decode cX8_present 14 = .ok (.bipush 7, 2) := by decide +kernel
theorem dX8_present_16 : decode cX8_present 16 = .ok (.invokevirtual 75, 3) := by decide +kernel
theorem dX8_present_19 : decode cX8_present 19 = .ok (.if_icmp .ge 46, 3) := by decide +kernel
theorem dX8_present_22 : decode cX8_present 22 = .ok (.iload_n 3, 1) := by decide +kernel
theorem dX8_present_23 : decode cX8_present 23 = .ok (.aload_n 0, 1) := by decide +kernel
theorem dX8_present_24 : decode cX8_present 24 = .ok (.iload_n 1, 1) := by decide +kernel
theorem dX8_present_25 : decode cX8_present 25 = .ok (.bipush 8, 2) := by decide +kernel
theorem dX8_present_27 : decode cX8_present 27 = .ok (.iconst 2, 1) := by decide +kernel
theorem dX8_present_28 : decode cX8_present 28 = .ok (.iload 4, 2) := by decide +kernel
theorem dX8_present_30 : decode cX8_present 30 = .ok (.imul, 1) := by decide +kernel
theorem dX8_present_31 : decode cX8_present 31 = .ok (.iadd, 1) := by decide +kernel
theorem dX8_present_32 : decode cX8_present 32 = .ok (.invokevirtual 75, 3) := by decide +kernel
theorem dX8_present_35 : decode cX8_present 35 = .ok (.iload_n 2, 1) := by decide +kernel
theorem dX8_present_36 : decode cX8_present 36 = .ok (.if_icmp .ne 20, 3) := by decide +kernel
theorem dX8_present_39 : decode cX8_present 39 = .ok (.aload_n 0, 1) := by decide +kernel
theorem dX8_present_40 : decode cX8_present 40 = .ok (.iload_n 1, 1) := by decide +kernel
theorem dX8_present_41 : decode cX8_present 41 = .ok (.bipush 8, 2) := by decide +kernel
theorem dX8_present_43 : decode cX8_present 43 = .ok (.iconst 2, 1) := by decide +kernel
theorem dX8_present_44 : decode cX8_present 44 = .ok (.iload 4, 2) := by decide +kernel
theorem dX8_present_46 : decode cX8_present 46 = .ok (.imul, 1) := by decide +kernel
theorem dX8_present_47 : decode cX8_present 47 = .ok (.iadd, 1) := by decide +kernel
theorem dX8_present_48 : decode cX8_present 48 = .ok (.iconst 1, 1) := by decide +kernel
theorem dX8_present_49 : decode cX8_present 49 = .ok (.iadd, 1) := by decide +kernel
theorem dX8_present_50 : decode cX8_present 50 = .ok (.invokevirtual 75, 3) := by decide +kernel
theorem dX8_present_53 : decode cX8_present 53 = .ok (.goto 4, 3) := by decide +kernel
theorem dX8_present_56 : decode cX8_present 56 = .ok (.iconst 0, 1) := by decide +kernel
theorem dX8_present_57 : decode cX8_present 57 = .ok (.iadd, 1) := by decide +kernel
theorem dX8_present_58 : decode cX8_present 58 = .ok (.istore_n 3, 1) := by decide +kernel
theorem dX8_present_59 : decode cX8_present 59 = .ok (.iinc 4 1, 3) := by decide +kernel
theorem dX8_present_62 : decode cX8_present 62 = .ok (.goto (-52), 3) := by decide +kernel
theorem dX8_present_65 : decode cX8_present 65 = .ok (.iload_n 3, 1) := by decide +kernel
theorem dX8_present_66 : decode cX8_present 66 = .ok (.ireturn, 1) := by decide +kernel
theorem dX8_isAllowed_0 : decode cX8_isAllowed 0 = .ok (.aload_n 0, 1) := by decide +kernel
theorem dX8_isAllowed_1 : decode cX8_isAllowed 1 = .ok (.iload_n 1, 1) := by decide +kernel
theorem dX8_isAllowed_2 : decode cX8_isAllowed 2 = .ok (.iload_n 2, 1) := by decide +kernel
theorem dX8_isAllowed_3 : decode cX8_isAllowed 3 = .ok (.invokevirtual 78, 3) := by decide +kernel
theorem dX8_isAllowed_6 : decode cX8_isAllowed 6 = .ok (.iload_n 3, 1) := by decide +kernel
theorem dX8_isAllowed_7 : decode cX8_isAllowed 7 = .ok (.iadd, 1) := by decide +kernel
theorem dX8_isAllowed_8 : decode cX8_isAllowed 8 = .ok (.istore 4, 2) := by decide +kernel
theorem dX8_isAllowed_10 : decode cX8_isAllowed 10 = .ok (.aload_n 0, 1) := by decide +kernel
theorem dX8_isAllowed_11 : decode cX8_isAllowed 11 = .ok (.iload_n 1, 1) := by decide +kernel
theorem dX8_isAllowed_12 : decode cX8_isAllowed 12 = .ok (.iload_n 2, 1) := by decide +kernel
theorem dX8_isAllowed_13 : decode cX8_isAllowed 13 = .ok (.invokevirtual 75, 3) := by decide +kernel
theorem dX8_isAllowed_16 : decode cX8_isAllowed 16 = .ok (.istore 5, 2) := by decide +kernel
theorem dX8_isAllowed_18 : decode cX8_isAllowed 18 = .ok (.iload 4, 2) := by decide +kernel
theorem dX8_isAllowed_20 : decode cX8_isAllowed 20 = .ok (.bipush 40, 2) := by decide +kernel
theorem dX8_isAllowed_22 : decode cX8_isAllowed 22 = .ok (.if_icmp .lt 31, 3) := by decide +kernel
theorem dX8_isAllowed_25 : decode cX8_isAllowed 25 = .ok (.iload 4, 2) := by decide +kernel
theorem dX8_isAllowed_27 : decode cX8_isAllowed 27 = .ok (.iload 5, 2) := by decide +kernel
theorem dX8_isAllowed_29 : decode cX8_isAllowed 29 = .ok (.bipush 20, 2) := by decide +kernel
theorem dX8_isAllowed_31 : decode cX8_isAllowed 31 = .ok (.isub, 1) := by decide +kernel
theorem dX8_isAllowed_32 : decode cX8_isAllowed 32 = .ok (.if_icmp .lt 21, 3) := by decide +kernel
theorem dX8_isAllowed_35 : decode cX8_isAllowed 35 = .ok (.iload 4, 2) := by decide +kernel
theorem dX8_isAllowed_37 : decode cX8_isAllowed 37 = .ok (.iload 5, 2) := by decide +kernel
theorem dX8_isAllowed_39 : decode cX8_isAllowed 39 = .ok (.aload_n 0, 1) := by decide +kernel
theorem dX8_isAllowed_40 : decode cX8_isAllowed 40 = .ok (.iload_n 1, 1) := by decide +kernel
theorem dX8_isAllowed_41 : decode cX8_isAllowed 41 = .ok (.iconst 3, 1) := by decide +kernel
theorem dX8_isAllowed_42 : decode cX8_isAllowed 42 = .ok (.invokevirtual 75, 3) := by decide +kernel
theorem dX8_isAllowed_45 : decode cX8_isAllowed 45 = .ok (.iadd, 1) := by decide +kernel
theorem dX8_isAllowed_46 : decode cX8_isAllowed 46 = .ok (.if_icmp .gt 7, 3) := by decide +kernel
theorem dX8_isAllowed_49 : decode cX8_isAllowed 49 = .ok (.iconst 1, 1) := by decide +kernel
theorem dX8_isAllowed_50 : decode cX8_isAllowed 50 = .ok (.goto 4, 3) := by decide +kernel
theorem dX8_isAllowed_53 : decode cX8_isAllowed 53 = .ok (.iconst 0, 1) := by decide +kernel
theorem dX8_isAllowed_54 : decode cX8_isAllowed 54 = .ok (.ireturn, 1) := by decide +kernel
theorem dX8_isAway_0 : decode cX8_isAway 0 = .ok (.iconst 0, 1) := by decide +kernel
theorem dX8_isAway_1 : decode cX8_isAway 1 = .ok (.istore_n 3, 1) := by decide +kernel
theorem dX8_isAway_2 : decode cX8_isAway 2 = .ok (.iload_n 3, 1) := by decide +kernel
theorem dX8_isAway_3 : decode cX8_isAway 3 = .ok (.aload_n 0, 1) := by decide +kernel
theorem dX8_isAway_4 : decode cX8_isAway 4 = .ok (.getfield 7, 3) := by decide +kernel
theorem dX8_isAway_7 : decode cX8_isAway 7 = .ok (.iconst 2, 1) := by decide +kernel
theorem dX8_isAway_8 : decode cX8_isAway 8 = .ok (.iaload, 1) := by decide +kernel
theorem dX8_isAway_9 : decode cX8_isAway 9 = .ok (.if_icmp .ge 52, 3) := by decide +kernel
theorem dX8_isAway_12 : decode cX8_isAway 12 = .ok (.aload_n 0, 1) := by decide +kernel
theorem dX8_isAway_13 : decode cX8_isAway 13 = .ok (.iload_n 3, 1) := by decide +kernel
theorem dX8_isAway_14 : decode cX8_isAway 14 = .ok (.iconst 0, 1) := by decide +kernel
theorem dX8_isAway_15 : decode cX8_isAway 15 = .ok (.invokevirtual 81, 3) := by decide +kernel
theorem dX8_isAway_18 : decode cX8_isAway 18 = .ok (.iload_n 1, 1) := by decide +kernel
theorem dX8_isAway_19 : decode cX8_isAway 19 = .ok (.if_icmp .ne 36, 3) := by decide +kernel
theorem dX8_isAway_22 : decode cX8_isAway 22 = .ok (.iload_n 2, 1) := by decide +kernel
theorem dX8_isAway_23 : decode cX8_isAway 23 = .ok (.i2l, 1) := by decide +kernel
theorem dX8_isAway_24 : decode cX8_isAway 24 = .ok (.aload_n 0, 1) := by decide +kernel
theorem dX8_isAway_25 : decode cX8_isAway 25 = .ok (.iload_n 3, 1) := by decide +kernel
theorem dX8_isAway_26 : decode cX8_isAway 26 = .ok (.iconst 1, 1) := by decide +kernel
theorem dX8_isAway_27 : decode cX8_isAway 27 = .ok (.invokevirtual 81, 3) := by decide +kernel
theorem dX8_isAway_30 : decode cX8_isAway 30 = .ok (.i2l, 1) := by decide +kernel
theorem dX8_isAway_31 : decode cX8_isAway 31 = .ok (.aload_n 0, 1) := by decide +kernel
theorem dX8_isAway_32 : decode cX8_isAway 32 = .ok (.iload_n 3, 1) := by decide +kernel
theorem dX8_isAway_33 : decode cX8_isAway 33 = .ok (.iconst 1, 1) := by decide +kernel
theorem dX8_isAway_34 : decode cX8_isAway 34 = .ok (.invokevirtual 81, 3) := by decide +kernel
theorem dX8_isAway_37 : decode cX8_isAway 37 = .ok (.aload_n 0, 1) := by decide +kernel
theorem dX8_isAway_38 : decode cX8_isAway 38 = .ok (.iload_n 3, 1) := by decide +kernel
theorem dX8_isAway_39 : decode cX8_isAway 39 = .ok (.iconst 2, 1) := by decide +kernel
theorem dX8_isAway_40 : decode cX8_isAway 40 = .ok (.invokevirtual 81, 3) := by decide +kernel
theorem dX8_isAway_43 : decode cX8_isAway 43 = .ok (.iadd, 1) := by decide +kernel
theorem dX8_isAway_44 : decode cX8_isAway 44 = .ok (.iconst 1, 1) := by decide +kernel
theorem dX8_isAway_45 : decode cX8_isAway 45 = .ok (.isub, 1) := by decide +kernel
theorem dX8_isAway_46 : decode cX8_isAway 46 = .ok (.i2l, 1) := by decide +kernel
theorem dX8_isAway_47 : decode cX8_isAway 47 = .ok (.invokestatic 32, 3) := by decide +kernel
theorem dX8_isAway_50 : decode cX8_isAway 50 = .ok (.ifCond .eq 5, 3) := by decide +kernel
theorem dX8_isAway_53 : decode cX8_isAway 53 = .ok (.iconst 1, 1) := by decide +kernel
theorem dX8_isAway_54 : decode cX8_isAway 54 = .ok (.ireturn, 1) := by decide +kernel
theorem dX8_isAway_55 : decode cX8_isAway 55 = .ok (.iinc 3 1, 3) := by decide +kernel
theorem dX8_isAway_58 : decode cX8_isAway 58 = .ok (.goto (-56), 3) := by decide +kernel
theorem dX8_isAway_61 : decode cX8_isAway 61 = .ok (.iconst 0, 1) := by decide +kernel
theorem dX8_isAway_62 : decode cX8_isAway 62 = .ok (.ireturn, 1) := by decide +kernel
theorem dX8_isAwayToday_0 : decode cX8_isAwayToday 0 = .ok (.aload_n 0, 1) := by decide +kernel
theorem dX8_isAwayToday_1 : decode cX8_isAwayToday 1 = .ok (.iload_n 1, 1) := by decide +kernel
theorem dX8_isAwayToday_2 : decode cX8_isAwayToday 2 = .ok (.aload_n 0, 1) := by decide +kernel
theorem dX8_isAwayToday_3 : decode cX8_isAwayToday 3 = .ok (.getfield 7, 3) := by decide +kernel
theorem dX8_isAwayToday_6 : decode cX8_isAwayToday 6 = .ok (.iconst 3, 1) := by decide +kernel
theorem dX8_isAwayToday_7 : decode cX8_isAwayToday 7 = .ok (.iaload, 1) := by decide +kernel
theorem dX8_isAwayToday_8 : decode cX8_isAwayToday 8 = .ok (.invokevirtual 84, 3) := by decide +kernel
theorem dX8_isAwayToday_11 : decode cX8_isAwayToday 11 = .ok (.ireturn, 1) := by decide +kernel
theorem dX8_alter_0 : decode cX8_alter 0 = .ok (.aload_n 0, 1) := by decide +kernel
theorem dX8_alter_1 : decode cX8_alter 1 = .ok (.iconst 0, 1) := by decide +kernel
theorem dX8_alter_2 : decode cX8_alter 2 = .ok (.putfield 22, 3) := by decide +kernel
theorem dX8_alter_5 : decode cX8_alter 5 = .ok (.aload_n 0, 1) := by decide +kernel
theorem dX8_alter_6 : decode cX8_alter 6 = .ok (.iload_n 1, 1) := by decide +kernel
theorem dX8_alter_7 : decode cX8_alter 7 = .ok (.invokevirtual 58, 3) := by decide +kernel
theorem dX8_alter_10 : decode cX8_alter 10 = .ok (.ifCond .eq 33, 3) := by decide +kernel
theorem dX8_alter_13 : decode cX8_alter 13 = .ok (.iload_n 2, 1) := by decide +kernel
theorem dX8_alter_14 : decode cX8_alter 14 = .ok (.i2l, 1) := by decide +kernel
theorem dX8_alter_15 : decode cX8_alter 15 = .ok (.lconst 0, 1) := by decide +kernel
theorem dX8_alter_16 : decode cX8_alter 16 = .ok (.ldc2_w 71, 3) := by decide +kernel
theorem dX8_alter_19 : decode cX8_alter 19 = .ok (.invokestatic 32, 3) := by decide +kernel
theorem dX8_alter_22 : decode cX8_alter 22 = .ok (.ifCond .eq 21, 3) := by decide +kernel
theorem dX8_alter_25 : decode cX8_alter 25 = .ok (.iload_n 3, 1) := by decide +kernel
theorem dX8_alter_26 : decode cX8_alter 26 = .ok (.i2l, 1) := by decide +kernel
theorem dX8_alter_27 : decode cX8_alter 27 = .ok (.ldc2_w 88, 3) := by decide +kernel
theorem dX8_alter_30 : decode cX8_alter 30 = .ok (.ldc2_w 90, 3) := by decide +kernel
theorem dX8_alter_33 : decode cX8_alter 33 = .ok (.invokestatic 32, 3) := by decide +kernel
theorem dX8_alter_36 : decode cX8_alter 36 = .ok (.ifCond .eq 7, 3) := by decide +kernel
theorem dX8_alter_39 : decode cX8_alter 39 = .ok (.iload_n 3, 1) := by decide +kernel
theorem dX8_alter_40 : decode cX8_alter 40 = .ok (.ifCond .ne 7, 3) := by decide +kernel
theorem dX8_alter_43 : decode cX8_alter 43 = .ok (.sipush (-2001), 3) := by decide +kernel
theorem dX8_alter_46 : decode cX8_alter 46 = .ok (.ireturn, 1) := by decide +kernel
theorem dX8_alter_47 : decode cX8_alter 47 = .ok (.aload_n 0, 1) := by decide +kernel
theorem dX8_alter_48 : decode cX8_alter 48 = .ok (.iload_n 1, 1) := by decide +kernel
theorem dX8_alter_49 : decode cX8_alter 49 = .ok (.invokevirtual 92, 3) := by decide +kernel
theorem dX8_alter_52 : decode cX8_alter 52 = .ok (.ifCond .ne 13, 3) := by decide +kernel
theorem dX8_alter_55 : decode cX8_alter 55 = .ok (.aload_n 0, 1) := by decide +kernel
theorem dX8_alter_56 : decode cX8_alter 56 = .ok (.iload_n 1, 1) := by decide +kernel
theorem dX8_alter_57 : decode cX8_alter 57 = .ok (.iload_n 2, 1) := by decide +kernel
theorem dX8_alter_58 : decode cX8_alter 58 = .ok (.iload_n 3, 1) := by decide +kernel
theorem dX8_alter_59 : decode cX8_alter 59 = .ok (.invokevirtual 95, 3) := by decide +kernel
theorem dX8_alter_62 : decode cX8_alter 62 = .ok (.ifCond .ne 7, 3) := by decide +kernel
theorem dX8_alter_65 : decode cX8_alter 65 = .ok (.sipush (-2002), 3) := by decide +kernel
theorem dX8_alter_68 : decode cX8_alter 68 = .ok (.ireturn, 1) := by decide +kernel
theorem dX8_alter_69 : decode cX8_alter 69 = .ok (.aload_n 0, 1) := by decide +kernel
theorem dX8_alter_70 : decode cX8_alter 70 = .ok (.iload_n 1, 1) := by decide +kernel
theorem dX8_alter_71 : decode cX8_alter 71 = .ok (.bipush 7, 2) := by decide +kernel
theorem dX8_alter_73 : decode cX8_alter 73 = .ok (.invokevirtual 75, 3) := by decide +kernel
theorem dX8_alter_76 : decode cX8_alter 76 = .ok (.istore 4, 2) := by decide +kernel
theorem dX8_alter_78 : decode cX8_alter 78 = .ok (.iload 4, 2) := by decide +kernel
theorem dX8_alter_80 : decode cX8_alter 80 = .ok (.bipush 6, 2) := by decide +kernel
theorem dX8_alter_82 : decode cX8_alter 82 = .ok (.if_icmp .ne 7, 3) := by decide +kernel
theorem dX8_alter_85 : decode cX8_alter 85 = .ok (.sipush (-2003), 3) := by decide +kernel
theorem dX8_alter_88 : decode cX8_alter 88 = .ok (.ireturn, 1) := by decide +kernel
theorem dX8_alter_89 : decode cX8_alter 89 = .ok (.aload_n 0, 1) := by decide +kernel
theorem dX8_alter_90 : decode cX8_alter 90 = .ok (.invokevirtual 29, 3) := by decide +kernel
theorem dX8_alter_93 : decode cX8_alter 93 = .ok (.aload_n 0, 1) := by decide +kernel
theorem dX8_alter_94 : decode cX8_alter 94 = .ok (.iload_n 1, 1) := by decide +kernel
theorem dX8_alter_95 : decode cX8_alter 95 = .ok (.bipush 8, 2) := by decide +kernel
theorem dX8_alter_97 : decode cX8_alter 97 = .ok (.iconst 2, 1) := by decide +kernel
theorem dX8_alter_98 : decode cX8_alter 98 = .ok (.iload 4, 2) := by decide +kernel
theorem dX8_alter_100 : decode cX8_alter 100 = .ok (.imul, 1) := by decide +kernel
theorem dX8_alter_101 : decode cX8_alter 101 = .ok (.iadd, 1) := by decide +kernel
theorem dX8_alter_102 : decode cX8_alter 102 = .ok (.iload_n 2, 1) := by decide +kernel
theorem dX8_alter_103 : decode cX8_alter 103 = .ok (.invokevirtual 42, 3) := by decide +kernel
theorem dX8_alter_106 : decode cX8_alter 106 = .ok (.aload_n 0, 1) := by decide +kernel
theorem dX8_alter_107 : decode cX8_alter 107 = .ok (.iload_n 1, 1) := by decide +kernel
theorem dX8_alter_108 : decode cX8_alter 108 = .ok (.bipush 8, 2) := by decide +kernel
theorem dX8_alter_110 : decode cX8_alter 110 = .ok (.iconst 2, 1) := by decide +kernel
theorem dX8_alter_111 : decode cX8_alter 111 = .ok (.iload 4, 2) := by decide +kernel
theorem dX8_alter_113 : decode cX8_alter 113 = .ok (.imul, 1) := by decide +kernel
theorem dX8_alter_114 : decode cX8_alter 114 = .ok (.iadd, 1) := by decide +kernel
theorem dX8_alter_115 : decode cX8_alter 115 = .ok (.iconst 1, 1) := by decide +kernel
theorem dX8_alter_116 : decode cX8_alter 116 = .ok (.iadd, 1) := by decide +kernel
theorem dX8_alter_117 : decode cX8_alter 117 = .ok (.iload_n 3, 1) := by decide +kernel
theorem dX8_alter_118 : decode cX8_alter 118 = .ok (.invokevirtual 42, 3) := by decide +kernel
theorem dX8_alter_121 : decode cX8_alter 121 = .ok (.aload_n 0, 1) := by decide +kernel
theorem dX8_alter_122 : decode cX8_alter 122 = .ok (.iload_n 1, 1) := by decide +kernel
theorem dX8_alter_123 : decode cX8_alter 123 = .ok (.bipush 7, 2) := by decide +kernel
theorem dX8_alter_125 : decode cX8_alter 125 = .ok (.iload 4, 2) := by decide +kernel
theorem dX8_alter_127 : decode cX8_alter 127 = .ok (.iconst 1, 1) := by decide +kernel
theorem dX8_alter_128 : decode cX8_alter 128 = .ok (.iadd, 1) := by decide +kernel
theorem dX8_alter_129 : decode cX8_alter 129 = .ok (.invokevirtual 42, 3) := by decide +kernel
theorem dX8_alter_132 : decode cX8_alter 132 = .ok (.bipush 10, 2) := by decide +kernel
theorem dX8_alter_134 : decode cX8_alter 134 = .ok (.iconst 5, 1) := by decide +kernel
theorem dX8_alter_135 : decode cX8_alter 135 = .ok (.iload_n 3, 1) := by decide +kernel
theorem dX8_alter_136 : decode cX8_alter 136 = .ok (.iconst 0, 1) := by decide +kernel
theorem dX8_alter_137 : decode cX8_alter 137 = .ok (.invokestatic 99, 3) := by decide +kernel
theorem dX8_alter_140 : decode cX8_alter 140 = .ok (.imul, 1) := by decide +kernel
theorem dX8_alter_141 : decode cX8_alter 141 = .ok (.iadd, 1) := by decide +kernel
theorem dX8_alter_142 : decode cX8_alter 142 = .ok (.istore 5, 2) := by decide +kernel
theorem dX8_alter_144 : decode cX8_alter 144 = .ok (.aload_n 0, 1) := by decide +kernel
theorem dX8_alter_145 : decode cX8_alter 145 = .ok (.getfield 7, 3) := by decide +kernel
theorem dX8_alter_148 : decode cX8_alter 148 = .ok (.iconst 4, 1) := by decide +kernel
theorem dX8_alter_149 : decode cX8_alter 149 = .ok (.dup2, 1) := by decide +kernel
theorem dX8_alter_150 : decode cX8_alter 150 = .ok (.iaload, 1) := by decide +kernel
theorem dX8_alter_151 : decode cX8_alter 151 = .ok (.iload 5, 2) := by decide +kernel
theorem dX8_alter_153 : decode cX8_alter 153 = .ok (.iadd, 1) := by decide +kernel
theorem dX8_alter_154 : decode cX8_alter 154 = .ok (.iastore, 1) := by decide +kernel
theorem dX8_alter_155 : decode cX8_alter 155 = .ok (.iload 5, 2) := by decide +kernel
theorem dX8_alter_157 : decode cX8_alter 157 = .ok (.ireturn, 1) := by decide +kernel
theorem dX8_unpick_0 : decode cX8_unpick 0 = .ok (.aload_n 0, 1) := by decide +kernel
theorem dX8_unpick_1 : decode cX8_unpick 1 = .ok (.iconst 0, 1) := by decide +kernel
theorem dX8_unpick_2 : decode cX8_unpick 2 = .ok (.putfield 22, 3) := by decide +kernel
theorem dX8_unpick_5 : decode cX8_unpick 5 = .ok (.aload_n 0, 1) := by decide +kernel
theorem dX8_unpick_6 : decode cX8_unpick 6 = .ok (.iload_n 1, 1) := by decide +kernel
theorem dX8_unpick_7 : decode cX8_unpick 7 = .ok (.invokevirtual 58, 3) := by decide +kernel
theorem dX8_unpick_10 : decode cX8_unpick 10 = .ok (.ifCond .ne 7, 3) := by decide +kernel
theorem dX8_unpick_13 : decode cX8_unpick 13 = .ok (.sipush (-2001), 3) := by decide +kernel
theorem dX8_unpick_16 : decode cX8_unpick 16 = .ok (.ireturn, 1) := by decide +kernel
theorem dX8_unpick_17 : decode cX8_unpick 17 = .ok (.aload_n 0, 1) := by decide +kernel
theorem dX8_unpick_18 : decode cX8_unpick 18 = .ok (.iload_n 1, 1) := by decide +kernel
theorem dX8_unpick_19 : decode cX8_unpick 19 = .ok (.bipush 7, 2) := by decide +kernel
theorem dX8_unpick_21 : decode cX8_unpick 21 = .ok (.invokevirtual 75, 3) := by decide +kernel
theorem dX8_unpick_24 : decode cX8_unpick 24 = .ok (.istore_n 2, 1) := by decide +kernel
theorem dX8_unpick_25 : decode cX8_unpick 25 = .ok (.aload_n 0, 1) := by decide +kernel
theorem dX8_unpick_26 : decode cX8_unpick 26 = .ok (.iload_n 1, 1) := by decide +kernel
theorem dX8_unpick_27 : decode cX8_unpick 27 = .ok (.invokevirtual 92, 3) := by decide +kernel
theorem dX8_unpick_30 : decode cX8_unpick 30 = .ok (.ifCond .ne 7, 3) := by decide +kernel
theorem dX8_unpick_33 : decode cX8_unpick 33 = .ok (.iload_n 2, 1) := by decide +kernel
theorem dX8_unpick_34 : decode cX8_unpick 34 = .ok (.ifCond .ne 7, 3) := by decide +kernel
theorem dX8_unpick_37 : decode cX8_unpick 37 = .ok (.sipush (-2002), 3) := by decide +kernel
theorem dX8_unpick_40 : decode cX8_unpick 40 = .ok (.ireturn, 1) := by decide +kernel
theorem dX8_unpick_41 : decode cX8_unpick 41 = .ok (.aload_n 0, 1) := by decide +kernel
theorem dX8_unpick_42 : decode cX8_unpick 42 = .ok (.invokevirtual 29, 3) := by decide +kernel
theorem dX8_unpick_45 : decode cX8_unpick 45 = .ok (.aload_n 0, 1) := by decide +kernel
theorem dX8_unpick_46 : decode cX8_unpick 46 = .ok (.iload_n 1, 1) := by decide +kernel
theorem dX8_unpick_47 : decode cX8_unpick 47 = .ok (.bipush 7, 2) := by decide +kernel
theorem dX8_unpick_49 : decode cX8_unpick 49 = .ok (.iload_n 2, 1) := by decide +kernel
theorem dX8_unpick_50 : decode cX8_unpick 50 = .ok (.iconst 1, 1) := by decide +kernel
theorem dX8_unpick_51 : decode cX8_unpick 51 = .ok (.isub, 1) := by decide +kernel
theorem dX8_unpick_52 : decode cX8_unpick 52 = .ok (.invokevirtual 42, 3) := by decide +kernel
theorem dX8_unpick_55 : decode cX8_unpick 55 = .ok (.iconst 5, 1) := by decide +kernel
theorem dX8_unpick_56 : decode cX8_unpick 56 = .ok (.iconst 2, 1) := by decide +kernel
theorem dX8_unpick_57 : decode cX8_unpick 57 = .ok (.aload_n 0, 1) := by decide +kernel
theorem dX8_unpick_58 : decode cX8_unpick 58 = .ok (.iload_n 1, 1) := by decide +kernel
theorem dX8_unpick_59 : decode cX8_unpick 59 = .ok (.bipush 8, 2) := by decide +kernel
theorem dX8_unpick_61 : decode cX8_unpick 61 = .ok (.iconst 2, 1) := by decide +kernel
theorem dX8_unpick_62 : decode cX8_unpick 62 = .ok (.iload_n 2, 1) := by decide +kernel
theorem dX8_unpick_63 : decode cX8_unpick 63 = .ok (.imul, 1) := by decide +kernel
theorem dX8_unpick_64 : decode cX8_unpick 64 = .ok (.iadd, 1) := by decide +kernel
theorem dX8_unpick_65 : decode cX8_unpick 65 = .ok (.iconst 1, 1) := by decide +kernel
theorem dX8_unpick_66 : decode cX8_unpick 66 = .ok (.isub, 1) := by decide +kernel
theorem dX8_unpick_67 : decode cX8_unpick 67 = .ok (.invokevirtual 75, 3) := by decide +kernel
theorem dX8_unpick_70 : decode cX8_unpick 70 = .ok (.iconst 0, 1) := by decide +kernel
theorem dX8_unpick_71 : decode cX8_unpick 71 = .ok (.invokestatic 99, 3) := by decide +kernel
theorem dX8_unpick_74 : decode cX8_unpick 74 = .ok (.imul, 1) := by decide +kernel
theorem dX8_unpick_75 : decode cX8_unpick 75 = .ok (.iadd, 1) := by decide +kernel
theorem dX8_unpick_76 : decode cX8_unpick 76 = .ok (.istore_n 3, 1) := by decide +kernel
theorem dX8_unpick_77 : decode cX8_unpick 77 = .ok (.aload_n 0, 1) := by decide +kernel
theorem dX8_unpick_78 : decode cX8_unpick 78 = .ok (.getfield 7, 3) := by decide +kernel
theorem dX8_unpick_81 : decode cX8_unpick 81 = .ok (.iconst 4, 1) := by decide +kernel
theorem dX8_unpick_82 : decode cX8_unpick 82 = .ok (.dup2, 1) := by decide +kernel
theorem dX8_unpick_83 : decode cX8_unpick 83 = .ok (.iaload, 1) := by decide +kernel
theorem dX8_unpick_84 : decode cX8_unpick 84 = .ok (.iload_n 3, 1) := by decide +kernel
theorem dX8_unpick_85 : decode cX8_unpick 85 = .ok (.iadd, 1) := by decide +kernel
theorem dX8_unpick_86 : decode cX8_unpick 86 = .ok (.iastore, 1) := by decide +kernel
theorem dX8_unpick_87 : decode cX8_unpick 87 = .ok (.iload_n 3, 1) := by decide +kernel
theorem dX8_unpick_88 : decode cX8_unpick 88 = .ok (.ireturn, 1) := by decide +kernel
theorem dX8_append_0 : decode cX8_append 0 = .ok (.aload_n 0, 1) := by decide +kernel
theorem dX8_append_1 : decode cX8_append 1 = .ok (.iconst 0, 1) := by decide +kernel
theorem dX8_append_2 : decode cX8_append 2 = .ok (.putfield 22, 3) := by decide +kernel
theorem dX8_append_5 : decode cX8_append 5 = .ok (.iload_n 1, 1) := by decide +kernel
theorem dX8_append_6 : decode cX8_append 6 = .ok (.i2l, 1) := by decide +kernel
theorem dX8_append_7 : decode cX8_append 7 = .ok (.lconst 1, 1) := by decide +kernel
theorem dX8_append_8 : decode cX8_append 8 = .ok (.ldc2_w 102, 3) := by decide +kernel
theorem dX8_append_11 : decode cX8_append 11 = .ok (.invokestatic 32, 3) := by decide +kernel
theorem dX8_append_14 : decode cX8_append 14 = .ok (.ifCond .ne 7, 3) := by decide +kernel
theorem dX8_append_17 : decode cX8_append 17 = .ok (.sipush (-2001), 3) := by decide +kernel
theorem dX8_append_20 : decode cX8_append 20 = .ok (.ireturn, 1) := by decide +kernel
theorem dX8_append_21 : decode cX8_append 21 = .ok (.aload_n 0, 1) := by decide +kernel
theorem dX8_append_22 : decode cX8_append 22 = .ok (.getfield 104, 3) := by decide +kernel
theorem dX8_append_25 : decode cX8_append 25 = .ok (.bipush 120, 2) := by decide +kernel
theorem dX8_append_27 : decode cX8_append 27 = .ok (.if_icmp .ne 7, 3) := by decide +kernel
theorem dX8_append_30 : decode cX8_append 30 = .ok (.sipush (-2003), 3) := by decide +kernel
theorem dX8_append_33 : decode cX8_append 33 = .ok (.ireturn, 1) := by decide +kernel
theorem dX8_append_34 : decode cX8_append 34 = .ok (.aload_n 0, 1) := by decide +kernel
theorem dX8_append_35 : decode cX8_append 35 = .ok (.getfield 19, 3) := by decide +kernel
theorem dX8_append_38 : decode cX8_append 38 = .ok (.aload_n 0, 1) := by decide +kernel
theorem dX8_append_39 : decode cX8_append 39 = .ok (.getfield 104, 3) := by decide +kernel
theorem dX8_append_42 : decode cX8_append 42 = .ok (.iload_n 1, 1) := by decide +kernel
theorem dX8_append_43 : decode cX8_append 43 = .ok (.iastore, 1) := by decide +kernel
theorem dX8_append_44 : decode cX8_append 44 = .ok (.aload_n 0, 1) := by decide +kernel
theorem dX8_append_45 : decode cX8_append 45 = .ok (.dup, 1) := by decide +kernel
theorem dX8_append_46 : decode cX8_append 46 = .ok (.getfield 104, 3) := by decide +kernel
theorem dX8_append_49 : decode cX8_append 49 = .ok (.iconst 1, 1) := by decide +kernel
theorem dX8_append_50 : decode cX8_append 50 = .ok (.iadd, 1) := by decide +kernel
theorem dX8_append_51 : decode cX8_append 51 = .ok (.putfield 104, 3) := by decide +kernel
theorem dX8_append_54 : decode cX8_append 54 = .ok (.aload_n 0, 1) := by decide +kernel
theorem dX8_append_55 : decode cX8_append 55 = .ok (.getfield 104, 3) := by decide +kernel
theorem dX8_append_58 : decode cX8_append 58 = .ok (.ireturn, 1) := by decide +kernel
theorem dX8_clearText_0 : decode cX8_clearText 0 = .ok (.aload_n 0, 1) := by decide +kernel
theorem dX8_clearText_1 : decode cX8_clearText 1 = .ok (.iconst 0, 1) := by decide +kernel
theorem dX8_clearText_2 : decode cX8_clearText 2 = .ok (.putfield 22, 3) := by decide +kernel
theorem dX8_clearText_5 : decode cX8_clearText 5 = .ok (.aload_n 0, 1) := by decide +kernel
theorem dX8_clearText_6 : decode cX8_clearText 6 = .ok (.getfield 104, 3) := by decide +kernel
theorem dX8_clearText_9 : decode cX8_clearText 9 = .ok (.istore_n 1, 1) := by decide +kernel
theorem dX8_clearText_10 : decode cX8_clearText 10 = .ok (.aload_n 0, 1) := by decide +kernel
theorem dX8_clearText_11 : decode cX8_clearText 11 = .ok (.iconst 0, 1) := by decide +kernel
theorem dX8_clearText_12 : decode cX8_clearText 12 = .ok (.putfield 104, 3) := by decide +kernel
theorem dX8_clearText_15 : decode cX8_clearText 15 = .ok (.iload_n 1, 1) := by decide +kernel
theorem dX8_clearText_16 : decode cX8_clearText 16 = .ok (.ireturn, 1) := by decide +kernel
theorem dX8_here_0 : decode cX8_here 0 = .ok (.aload_n 0, 1) := by decide +kernel
theorem dX8_here_1 : decode cX8_here 1 = .ok (.getfield 107, 3) := by decide +kernel
theorem dX8_here_4 : decode cX8_here 4 = .ok (.aload_n 0, 1) := by decide +kernel
theorem dX8_here_5 : decode cX8_here 5 = .ok (.getfield 104, 3) := by decide +kernel
theorem dX8_here_8 : decode cX8_here 8 = .ok (.if_icmp .ge 15, 3) := by decide +kernel
theorem dX8_here_11 : decode cX8_here 11 = .ok (.aload_n 0, 1) := by decide +kernel
theorem dX8_here_12 : decode cX8_here 12 = .ok (.getfield 19, 3) := by decide +kernel
theorem dX8_here_15 : decode cX8_here 15 = .ok (.aload_n 0, 1) := by decide +kernel
theorem dX8_here_16 : decode cX8_here 16 = .ok (.getfield 107, 3) := by decide +kernel
theorem dX8_here_19 : decode cX8_here 19 = .ok (.iaload, 1) := by decide +kernel
theorem dX8_here_20 : decode cX8_here 20 = .ok (.goto 4, 3) := by decide +kernel
theorem dX8_here_23 : decode cX8_here 23 = .ok (.iconst (-1), 1) := by decide +kernel
theorem dX8_here_24 : decode cX8_here 24 = .ok (.ireturn, 1) := by decide +kernel
theorem dX8_read_0 : decode cX8_read 0 = .ok (.aload_n 0, 1) := by decide +kernel
theorem dX8_read_1 : decode cX8_read 1 = .ok (.invokevirtual 110, 3) := by decide +kernel
theorem dX8_read_4 : decode cX8_read 4 = .ok (.bipush 32, 2) := by decide +kernel
theorem dX8_read_6 : decode cX8_read 6 = .ok (.if_icmp .ne 16, 3) := by decide +kernel
theorem dX8_read_9 : decode cX8_read 9 = .ok (.aload_n 0, 1) := by decide +kernel
theorem dX8_read_10 : decode cX8_read 10 = .ok (.dup, 1) := by decide +kernel
theorem dX8_read_11 : decode cX8_read 11 = .ok (.getfield 107, 3) := by decide +kernel
theorem dX8_read_14 : decode cX8_read 14 = .ok (.iconst 1, 1) := by decide +kernel
theorem dX8_read_15 : decode cX8_read 15 = .ok (.iadd, 1) := by decide +kernel
theorem dX8_read_16 : decode cX8_read 16 = .ok (.putfield 107, 3) := by decide +kernel
theorem dX8_read_19 : decode cX8_read 19 = .ok (.goto (-19), 3) := by decide +kernel
theorem dX8_read_22 : decode cX8_read 22 = .ok (.aload_n 0, 1) := by decide +kernel
theorem dX8_read_23 : decode cX8_read 23 = .ok (.aload_n 0, 1) := by decide +kernel
theorem dX8_read_24 : decode cX8_read 24 = .ok (.getfield 107, 3) := by decide +kernel
theorem dX8_read_27 : decode cX8_read 27 = .ok (.putfield 114, 3) := by decide +kernel
theorem dX8_read_30 : decode cX8_read 30 = .ok (.aload_n 0, 1) := by decide +kernel
theorem dX8_read_31 : decode cX8_read 31 = .ok (.lconst 0, 1) := by decide +kernel
theorem dX8_read_32 : decode cX8_read 32 = .ok (.putfield 117, 3) := by decide +kernel
theorem dX8_read_35 : decode cX8_read 35 = .ok (.aload_n 0, 1) := by decide +kernel
theorem dX8_read_36 : decode cX8_read 36 = .ok (.aload_n 0, 1) := by decide +kernel
theorem dX8_read_37 : decode cX8_read 37 = .ok (.invokevirtual 110, 3) := by decide +kernel
theorem dX8_read_40 : decode cX8_read 40 = .ok (.ifCond .ge 7, 3) := by decide +kernel
theorem dX8_read_43 : decode cX8_read 43 = .ok (.iconst 4, 1) := by decide +kernel
theorem dX8_read_44 : decode cX8_read 44 = .ok (.goto 17, 3) := by decide +kernel
theorem dX8_read_47 : decode cX8_read 47 = .ok (.aload_n 0, 1) := by decide +kernel
theorem dX8_read_48 : decode cX8_read 48 = .ok (.invokevirtual 110, 3) := by decide +kernel
theorem dX8_read_51 : decode cX8_read 51 = .ok (.bipush 59, 2) := by decide +kernel
theorem dX8_read_53 : decode cX8_read 53 = .ok (.if_icmp .ne 7, 3) := by decide +kernel
theorem dX8_read_56 : decode cX8_read 56 = .ok (.iconst 2, 1) := by decide +kernel
theorem dX8_read_57 : decode cX8_read 57 = .ok (.goto 4, 3) := by decide +kernel
theorem dX8_read_60 : decode cX8_read 60 = .ok (.iconst 3, 1) := by decide +kernel
theorem dX8_read_61 : decode cX8_read 61 = .ok (.putfield 121, 3) := by decide +kernel
theorem dX8_read_64 : decode cX8_read 64 = .ok (.aload_n 0, 1) := by decide +kernel
theorem dX8_read_65 : decode cX8_read 65 = .ok (.invokevirtual 110, 3) := by decide +kernel
theorem dX8_read_68 : decode cX8_read 68 = .ok (.i2l, 1) := by decide +kernel
theorem dX8_read_69 : decode cX8_read 69 = .ok (.ldc2_w 124, 3) := by decide +kernel
theorem dX8_read_72 : decode cX8_read 72 = .ok (.ldc2_w 126, 3) := by decide +kernel
theorem dX8_read_75 : decode cX8_read 75 = .ok (.invokestatic 32, 3) := by decide +kernel
theorem dX8_read_78 : decode cX8_read 78 = .ok (.ifCond .eq 80, 3) := by decide +kernel
theorem dX8_read_81 : decode cX8_read 81 = .ok (.aload_n 0, 1) := by decide +kernel
theorem dX8_read_82 : decode cX8_read 82 = .ok (.iconst 0, 1) := by decide +kernel
theorem dX8_read_83 : decode cX8_read 83 = .ok (.putfield 121, 3) := by decide +kernel
theorem dX8_read_86 : decode cX8_read 86 = .ok (.aload_n 0, 1) := by decide +kernel
theorem dX8_read_87 : decode cX8_read 87 = .ok (.invokevirtual 110, 3) := by decide +kernel
theorem dX8_read_90 : decode cX8_read 90 = .ok (.i2l, 1) := by decide +kernel
theorem dX8_read_91 : decode cX8_read 91 = .ok (.ldc2_w 124, 3) := by decide +kernel
theorem dX8_read_94 : decode cX8_read 94 = .ok (.ldc2_w 126, 3) := by decide +kernel
theorem dX8_read_97 : decode cX8_read 97 = .ok (.invokestatic 32, 3) := by decide +kernel
theorem dX8_read_100 : decode cX8_read 100 = .ok (.ifCond .eq 201, 3) := by decide +kernel
theorem dX8_read_103 : decode cX8_read 103 = .ok (.aload_n 0, 1) := by decide +kernel
theorem dX8_read_104 : decode cX8_read 104 = .ok (.aload_n 0, 1) := by decide +kernel
theorem dX8_read_105 : decode cX8_read 105 = .ok (.getfield 107, 3) := by decide +kernel
theorem dX8_read_108 : decode cX8_read 108 = .ok (.aload_n 0, 1) := by decide +kernel
theorem dX8_read_109 : decode cX8_read 109 = .ok (.getfield 114, 3) := by decide +kernel
theorem dX8_read_112 : decode cX8_read 112 = .ok (.isub, 1) := by decide +kernel
theorem dX8_read_113 : decode cX8_read 113 = .ok (.bipush 8, 2) := by decide +kernel
theorem dX8_read_115 : decode cX8_read 115 = .ok (.if_icmp .ge 26, 3) := by decide +kernel
theorem dX8_read_118 : decode cX8_read 118 = .ok (.ldc2_w 128, 3) := by decide +kernel
theorem dX8_read_121 : decode cX8_read 121 = .ok (.aload_n 0, 1) := by decide +kernel
theorem dX8_read_122 : decode cX8_read 122 = .ok (.getfield 117, 3) := by decide +kernel
theorem dX8_read_125 : decode cX8_read 125 = .ok (.lmul, 1) := by decide +kernel
theorem dX8_read_126 : decode cX8_read 126 = .ok (.aload_n 0, 1) := by decide +kernel
theorem dX8_read_127 : decode cX8_read 127 = .ok (.invokevirtual 110, 3) := by decide +kernel
theorem dX8_read_130 : decode cX8_read 130 = .ok (.i2l, 1) := by decide +kernel
theorem dX8_read_131 : decode cX8_read 131 = .ok (.ladd, 1) := by decide +kernel
theorem dX8_read_132 : decode cX8_read 132 = .ok (.ldc2_w 124, 3) := by decide +kernel
theorem dX8_read_135 : decode cX8_read 135 = .ok (.lsub, 1) := by decide +kernel
theorem dX8_read_136 : decode cX8_read 136 = .ok (.lconst 1, 1) := by decide +kernel
theorem dX8_read_137 : decode cX8_read 137 = .ok (.ladd, 1) := by decide +kernel
theorem dX8_read_138 : decode cX8_read 138 = .ok (.goto 4, 3) := by decide +kernel
theorem dX8_read_141 : decode cX8_read 141 = .ok (.lconst 0, 1) := by decide +kernel
theorem dX8_read_142 : decode cX8_read 142 = .ok (.putfield 117, 3) := by decide +kernel
theorem dX8_read_145 : decode cX8_read 145 = .ok (.aload_n 0, 1) := by decide +kernel
theorem dX8_read_146 : decode cX8_read 146 = .ok (.dup, 1) := by decide +kernel
theorem dX8_read_147 : decode cX8_read 147 = .ok (.getfield 107, 3) := by decide +kernel
theorem dX8_read_150 : decode cX8_read 150 = .ok (.iconst 1, 1) := by decide +kernel
theorem dX8_read_151 : decode cX8_read 151 = .ok (.iadd, 1) := by decide +kernel
theorem dX8_read_152 : decode cX8_read 152 = .ok (.putfield 107, 3) := by decide +kernel
theorem dX8_read_155 : decode cX8_read 155 = .ok (.goto (-69), 3) := by decide +kernel
theorem dX8_read_158 : decode cX8_read 158 = .ok (.aload_n 0, 1) := by decide +kernel
theorem dX8_read_159 : decode cX8_read 159 = .ok (.invokevirtual 110, 3) := by decide +kernel
theorem dX8_read_162 : decode cX8_read 162 = .ok (.i2l, 1) := by decide +kernel
theorem dX8_read_163 : decode cX8_read 163 = .ok (.ldc2_w 130, 3) := by decide +kernel
theorem dX8_read_166 : decode cX8_read 166 = .ok (.ldc2_w 132, 3) := by decide +kernel
theorem dX8_read_169 : decode cX8_read 169 = .ok (.invokestatic 32, 3) := by decide +kernel
theorem dX8_read_172 : decode cX8_read 172 = .ok (.ifCond .eq 112, 3) := by decide +kernel
theorem dX8_read_175 : decode cX8_read 175 = .ok (.aload_n 0, 1) := by decide +kernel
theorem dX8_read_176 : decode cX8_read 176 = .ok (.invokevirtual 110, 3) := by decide +kernel
theorem dX8_read_179 : decode cX8_read 179 = .ok (.i2l, 1) := by decide +kernel
theorem dX8_read_180 : decode cX8_read 180 = .ok (.ldc2_w 130, 3) := by decide +kernel
theorem dX8_read_183 : decode cX8_read 183 = .ok (.ldc2_w 132, 3) := by decide +kernel
theorem dX8_read_186 : decode cX8_read 186 = .ok (.invokestatic 32, 3) := by decide +kernel
theorem dX8_read_189 : decode cX8_read 189 = .ok (.ifCond .eq 56, 3) := by decide +kernel
theorem dX8_read_192 : decode cX8_read 192 = .ok (.aload_n 0, 1) := by decide +kernel
theorem dX8_read_193 : decode cX8_read 193 = .ok (.aload_n 0, 1) := by decide +kernel
theorem dX8_read_194 : decode cX8_read 194 = .ok (.getfield 117, 3) := by decide +kernel
theorem dX8_read_197 : decode cX8_read 197 = .ok (.ldc2_w 134, 3) := by decide +kernel
theorem dX8_read_200 : decode cX8_read 200 = .ok (.lcmp, 1) := by decide +kernel
theorem dX8_read_201 : decode cX8_read 201 = .ok (.ifCond .ge 24, 3) := by decide +kernel
theorem dX8_read_204 : decode cX8_read 204 = .ok (.ldc2_w 90, 3) := by decide +kernel
theorem dX8_read_207 : decode cX8_read 207 = .ok (.aload_n 0, 1) := by decide +kernel
theorem dX8_read_208 : decode cX8_read 208 = .ok (.getfield 117, 3) := by decide +kernel
theorem dX8_read_211 : decode cX8_read 211 = .ok (.lmul, 1) := by decide +kernel
theorem dX8_read_212 : decode cX8_read 212 = .ok (.aload_n 0, 1) := by decide +kernel
theorem dX8_read_213 : decode cX8_read 213 = .ok (.invokevirtual 110, 3) := by decide +kernel
theorem dX8_read_216 : decode cX8_read 216 = .ok (.i2l, 1) := by decide +kernel
theorem dX8_read_217 : decode cX8_read 217 = .ok (.ladd, 1) := by decide +kernel
theorem dX8_read_218 : decode cX8_read 218 = .ok (.ldc2_w 130, 3) := by decide +kernel
theorem dX8_read_221 : decode cX8_read 221 = .ok (.lsub, 1) := by decide +kernel
theorem dX8_read_222 : decode cX8_read 222 = .ok (.goto 7, 3) := by decide +kernel
theorem dX8_read_225 : decode cX8_read 225 = .ok (.aload_n 0, 1) := by decide +kernel
theorem dX8_read_226 : decode cX8_read 226 = .ok (.getfield 117, 3) := by decide +kernel
theorem dX8_read_229 : decode cX8_read 229 = .ok (.putfield 117, 3) := by decide +kernel
theorem dX8_read_232 : decode cX8_read 232 = .ok (.aload_n 0, 1) := by decide +kernel
theorem dX8_read_233 : decode cX8_read 233 = .ok (.dup, 1) := by decide +kernel
theorem dX8_read_234 : decode cX8_read 234 = .ok (.getfield 107, 3) := by decide +kernel
theorem dX8_read_237 : decode cX8_read 237 = .ok (.iconst 1, 1) := by decide +kernel
theorem dX8_read_238 : decode cX8_read 238 = .ok (.iadd, 1) := by decide +kernel
theorem dX8_read_239 : decode cX8_read 239 = .ok (.putfield 107, 3) := by decide +kernel
theorem dX8_read_242 : decode cX8_read 242 = .ok (.goto (-67), 3) := by decide +kernel
theorem dX8_read_245 : decode cX8_read 245 = .ok (.aload_n 0, 1) := by decide +kernel
theorem dX8_read_246 : decode cX8_read 246 = .ok (.aload_n 0, 1) := by decide +kernel
theorem dX8_read_247 : decode cX8_read 247 = .ok (.getfield 19, 3) := by decide +kernel
theorem dX8_read_250 : decode cX8_read 250 = .ok (.aload_n 0, 1) := by decide +kernel
theorem dX8_read_251 : decode cX8_read 251 = .ok (.getfield 114, 3) := by decide +kernel
theorem dX8_read_254 : decode cX8_read 254 = .ok (.iaload, 1) := by decide +kernel
theorem dX8_read_255 : decode cX8_read 255 = .ok (.bipush 48, 2) := by decide +kernel
theorem dX8_read_257 : decode cX8_read 257 = .ok (.if_icmp .ne 16, 3) := by decide +kernel
theorem dX8_read_260 : decode cX8_read 260 = .ok (.aload_n 0, 1) := by decide +kernel
theorem dX8_read_261 : decode cX8_read 261 = .ok (.getfield 107, 3) := by decide +kernel
theorem dX8_read_264 : decode cX8_read 264 = .ok (.aload_n 0, 1) := by decide +kernel
theorem dX8_read_265 : decode cX8_read 265 = .ok (.getfield 114, 3) := by decide +kernel
theorem dX8_read_268 : decode cX8_read 268 = .ok (.iconst 1, 1) := by decide +kernel
theorem dX8_read_269 : decode cX8_read 269 = .ok (.iadd, 1) := by decide +kernel
theorem dX8_read_270 : decode cX8_read 270 = .ok (.if_icmp .ne 7, 3) := by decide +kernel
theorem dX8_read_273 : decode cX8_read 273 = .ok (.iconst 1, 1) := by decide +kernel
theorem dX8_read_274 : decode cX8_read 274 = .ok (.goto 4, 3) := by decide +kernel
theorem dX8_read_277 : decode cX8_read 277 = .ok (.iconst 3, 1) := by decide +kernel
theorem dX8_read_278 : decode cX8_read 278 = .ok (.putfield 121, 3) := by decide +kernel
theorem dX8_read_281 : decode cX8_read 281 = .ok (.goto 20, 3) := by decide +kernel
theorem dX8_read_284 : decode cX8_read 284 = .ok (.aload_n 0, 1) := by decide +kernel
theorem dX8_read_285 : decode cX8_read 285 = .ok (.invokevirtual 110, 3) := by decide +kernel
theorem dX8_read_288 : decode cX8_read 288 = .ok (.ifCond .lt 13, 3) := by decide +kernel
theorem dX8_read_291 : decode cX8_read 291 = .ok (.aload_n 0, 1) := by decide +kernel
theorem dX8_read_292 : decode cX8_read 292 = .ok (.dup, 1) := by decide +kernel
theorem dX8_read_293 : decode cX8_read 293 = .ok (.getfield 107, 3) := by decide +kernel
theorem dX8_read_296 : decode cX8_read 296 = .ok (.iconst 1, 1) := by decide +kernel
theorem dX8_read_297 : decode cX8_read 297 = .ok (.iadd, 1) := by decide +kernel
theorem dX8_read_298 : decode cX8_read 298 = .ok (.putfield 107, 3) := by decide +kernel
theorem dX8_read_301 : decode cX8_read 301 = .ok (.return_, 1) := by decide +kernel
theorem dX8_take_0 : decode cX8_take 0 = .ok (.aload_n 0, 1) := by decide +kernel
theorem dX8_take_1 : decode cX8_take 1 = .ok (.aload_n 0, 1) := by decide +kernel
theorem dX8_take_2 : decode cX8_take 2 = .ok (.getfield 136, 3) := by decide +kernel
theorem dX8_take_5 : decode cX8_take 5 = .ok (.ifCond .ne 7, 3) := by decide +kernel
theorem dX8_take_8 : decode cX8_take 8 = .ok (.iload_n 1, 1) := by decide +kernel
theorem dX8_take_9 : decode cX8_take 9 = .ok (.ifCond .ne 7, 3) := by decide +kernel
theorem dX8_take_12 : decode cX8_take 12 = .ok (.iconst 1, 1) := by decide +kernel
theorem dX8_take_13 : decode cX8_take 13 = .ok (.goto 4, 3) := by decide +kernel
theorem dX8_take_16 : decode cX8_take 16 = .ok (.iconst 0, 1) := by decide +kernel
theorem dX8_take_17 : decode cX8_take 17 = .ok (.putfield 136, 3) := by decide +kernel
theorem dX8_take_20 : decode cX8_take 20 = .ok (.aload_n 0, 1) := by decide +kernel
theorem dX8_take_21 : decode cX8_take 21 = .ok (.getfield 136, 3) := by decide +kernel
theorem dX8_take_24 : decode cX8_take 24 = .ok (.ifCond .ne 7, 3) := by decide +kernel
theorem dX8_take_27 : decode cX8_take 27 = .ok (.aload_n 0, 1) := by decide +kernel
theorem dX8_take_28 : decode cX8_take 28 = .ok (.invokevirtual 140, 3) := by decide +kernel
theorem dX8_take_31 : decode cX8_take 31 = .ok (.return_, 1) := by decide +kernel
theorem dX8_takeNumber_0 : decode cX8_takeNumber 0 = .ok (.aload_n 0, 1) := by decide +kernel
theorem dX8_takeNumber_1 : decode cX8_takeNumber 1 = .ok (.getfield 117, 3) := by decide +kernel
theorem dX8_takeNumber_4 : decode cX8_takeNumber 4 = .ok (.l2i, 1) := by decide +kernel
theorem dX8_takeNumber_5 : decode cX8_takeNumber 5 = .ok (.istore_n 3, 1) := by decide +kernel
theorem dX8_takeNumber_6 : decode cX8_takeNumber 6 = .ok (.aload_n 0, 1) := by decide +kernel
theorem dX8_takeNumber_7 : decode cX8_takeNumber 7 = .ok (.aload_n 0, 1) := by decide +kernel
theorem dX8_takeNumber_8 : decode cX8_takeNumber 8 = .ok (.getfield 121, 3) := by decide +kernel
theorem dX8_takeNumber_11 : decode cX8_takeNumber 11 = .ok (.iconst 1, 1) := by decide +kernel
theorem dX8_takeNumber_12 : decode cX8_takeNumber 12 = .ok (.if_icmp .ne 21, 3) := by decide +kernel
theorem dX8_takeNumber_15 : decode cX8_takeNumber 15 = .ok (.aload_n 0, 1) := by decide +kernel
theorem dX8_takeNumber_16 : decode cX8_takeNumber 16 = .ok (.getfield 117, 3) := by decide +kernel
theorem dX8_takeNumber_19 : decode cX8_takeNumber 19 = .ok (.iload_n 1, 1) := by decide +kernel
theorem dX8_takeNumber_20 : decode cX8_takeNumber 20 = .ok (.i2l, 1) := by decide +kernel
theorem dX8_takeNumber_21 : decode cX8_takeNumber 21 = .ok (.iload_n 2, 1) := by decide +kernel
theorem dX8_takeNumber_22 : decode cX8_takeNumber 22 = .ok (.i2l, 1) := by decide +kernel
theorem dX8_takeNumber_23 : decode cX8_takeNumber 23 = .ok (.invokestatic 32, 3) := by decide +kernel
theorem dX8_takeNumber_26 : decode cX8_takeNumber 26 = .ok (.ifCond .eq 7, 3) := by decide +kernel
theorem dX8_takeNumber_29 : decode cX8_takeNumber 29 = .ok (.iconst 1, 1) := by decide +kernel
theorem dX8_takeNumber_30 : decode cX8_takeNumber 30 = .ok (.goto 4, 3) := by decide +kernel
theorem dX8_takeNumber_33 : decode cX8_takeNumber 33 = .ok (.iconst 0, 1) := by decide +kernel
theorem dX8_takeNumber_34 : decode cX8_takeNumber 34 = .ok (.invokevirtual 143, 3) := by decide +kernel
theorem dX8_takeNumber_37 : decode cX8_takeNumber 37 = .ok (.iload_n 3, 1) := by decide +kernel
theorem dX8_takeNumber_38 : decode cX8_takeNumber 38 = .ok (.ireturn, 1) := by decide +kernel
theorem dX8_isWord_0 : decode cX8_isWord 0 = .ok (.aload_n 0, 1) := by decide +kernel
theorem dX8_isWord_1 : decode cX8_isWord 1 = .ok (.getfield 121, 3) := by decide +kernel
theorem dX8_isWord_4 : decode cX8_isWord 4 = .ok (.ifCond .ne 16, 3) := by decide +kernel
theorem dX8_isWord_7 : decode cX8_isWord 7 = .ok (.aload_n 0, 1) := by decide +kernel
theorem dX8_isWord_8 : decode cX8_isWord 8 = .ok (.getfield 117, 3) := by decide +kernel
theorem dX8_isWord_11 : decode cX8_isWord 11 = .ok (.lload_n 1, 1) := by decide +kernel
theorem dX8_isWord_12 : decode cX8_isWord 12 = .ok (.lcmp, 1) := by decide +kernel
theorem dX8_isWord_13 : decode cX8_isWord 13 = .ok (.ifCond .ne 7, 3) := by decide +kernel
theorem dX8_isWord_16 : decode cX8_isWord 16 = .ok (.iconst 1, 1) := by decide +kernel
theorem dX8_isWord_17 : decode cX8_isWord 17 = .ok (.goto 4, 3) := by decide +kernel
theorem dX8_isWord_20 : decode cX8_isWord 20 = .ok (.iconst 0, 1) := by decide +kernel
theorem dX8_isWord_21 : decode cX8_isWord 21 = .ok (.ireturn, 1) := by decide +kernel
theorem dX8_readItem_0 : decode cX8_readItem 0 = .ok (.aload_n 0, 1) := by decide +kernel
theorem dX8_readItem_1 : decode cX8_readItem 1 = .ok (.ldc2_w 147, 3) := by decide +kernel
theorem dX8_readItem_4 : decode cX8_readItem 4 = .ok (.invokevirtual 149, 3) := by decide +kernel
theorem dX8_readItem_7 : decode cX8_readItem 7 = .ok (.istore_n 1, 1) := by decide +kernel
theorem dX8_readItem_8 : decode cX8_readItem 8 = .ok (.aload_n 0, 1) := by decide +kernel
theorem dX8_readItem_9 : decode cX8_readItem 9 = .ok (.iload_n 1, 1) := by decide +kernel
theorem dX8_readItem_10 : decode cX8_readItem 10 = .ok (.ifCond .eq 14, 3) := by decide +kernel
theorem dX8_readItem_13 : decode cX8_readItem 13 = .ok (.aload_n 0, 1) := by decide +kernel
theorem dX8_readItem_14 : decode cX8_readItem 14 = .ok (.getfield 7, 3) := by decide +kernel
theorem dX8_readItem_17 : decode cX8_readItem 17 = .ok (.iconst 0, 1) := by decide +kernel
theorem dX8_readItem_18 : decode cX8_readItem 18 = .ok (.iaload, 1) := by decide +kernel
theorem dX8_readItem_19 : decode cX8_readItem 19 = .ok (.bipush 16, 2) := by decide +kernel
theorem dX8_readItem_21 : decode cX8_readItem 21 = .ok (.if_icmp .lt 24, 3) := by decide +kernel
theorem dX8_readItem_24 : decode cX8_readItem 24 = .ok (.aload_n 0, 1) := by decide +kernel
theorem dX8_readItem_25 : decode cX8_readItem 25 = .ok (.ldc2_w 153, 3) := by decide +kernel
theorem dX8_readItem_28 : decode cX8_readItem 28 = .ok (.invokevirtual 149, 3) := by decide +kernel
theorem dX8_readItem_31 : decode cX8_readItem 31 = .ok (.ifCond .eq 18, 3) := by decide +kernel
theorem dX8_readItem_34 : decode cX8_readItem 34 = .ok (.aload_n 0, 1) := by decide +kernel
theorem dX8_readItem_35 : decode cX8_readItem 35 = .ok (.getfield 7, 3) := by decide +kernel
theorem dX8_readItem_38 : decode cX8_readItem 38 = .ok (.iconst 1, 1) := by decide +kernel
theorem dX8_readItem_39 : decode cX8_readItem 39 = .ok (.iaload, 1) := by decide +kernel
theorem dX8_readItem_40 : decode cX8_readItem 40 = .ok (.bipush 8, 2) := by decide +kernel
theorem dX8_readItem_42 : decode cX8_readItem 42 = .ok (.if_icmp .ge 7, 3) := by decide +kernel
theorem dX8_readItem_45 : decode cX8_readItem 45 = .ok (.iconst 1, 1) := by decide +kernel
theorem dX8_readItem_46 : decode cX8_readItem 46 = .ok (.goto 4, 3) := by decide +kernel
theorem dX8_readItem_49 : decode cX8_readItem 49 = .ok (.iconst 0, 1) := by decide +kernel
theorem dX8_readItem_50 : decode cX8_readItem 50 = .ok (.invokevirtual 143, 3) := by decide +kernel
theorem dX8_readItem_53 : decode cX8_readItem 53 = .ok (.aload_n 0, 1) := by decide +kernel
theorem dX8_readItem_54 : decode cX8_readItem 54 = .ok (.bipush 40, 2) := by decide +kernel
theorem dX8_readItem_56 : decode cX8_readItem 56 = .ok (.sipush 200, 3) := by decide +kernel
theorem dX8_readItem_59 : decode cX8_readItem 59 = .ok (.invokevirtual 155, 3) := by decide +kernel
theorem dX8_readItem_62 : decode cX8_readItem 62 = .ok (.istore_n 2, 1) := by decide +kernel
theorem dX8_readItem_63 : decode cX8_readItem 63 = .ok (.aload_n 0, 1) := by decide +kernel
theorem dX8_readItem_64 : decode cX8_readItem 64 = .ok (.bipush 40, 2) := by decide +kernel
theorem dX8_readItem_66 : decode cX8_readItem 66 = .ok (.sipush 200, 3) := by decide +kernel
theorem dX8_readItem_69 : decode cX8_readItem 69 = .ok (.invokevirtual 155, 3) := by decide +kernel
theorem dX8_readItem_72 : decode cX8_readItem 72 = .ok (.istore_n 3, 1) := by decide +kernel
theorem dX8_readItem_73 : decode cX8_readItem 73 = .ok (.aload_n 0, 1) := by decide +kernel
theorem dX8_readItem_74 : decode cX8_readItem 74 = .ok (.bipush 40, 2) := by decide +kernel
theorem dX8_readItem_76 : decode cX8_readItem 76 = .ok (.sipush 200, 3) := by decide +kernel
theorem dX8_readItem_79 : decode cX8_readItem 79 = .ok (.invokevirtual 155, 3) := by decide +kernel
theorem dX8_readItem_82 : decode cX8_readItem 82 = .ok (.istore 4, 2) := by decide +kernel
theorem dX8_readItem_84 : decode cX8_readItem 84 = .ok (.iload_n 1, 1) := by decide +kernel
theorem dX8_readItem_85 : decode cX8_readItem 85 = .ok (.ifCond .eq 13, 3) := by decide +kernel
theorem dX8_readItem_88 : decode cX8_readItem 88 = .ok (.aload_n 0, 1) := by decide +kernel
theorem dX8_readItem_89 : decode cX8_readItem 89 = .ok (.iconst 0, 1) := by decide +kernel
theorem dX8_readItem_90 : decode cX8_readItem 90 = .ok (.bipush 8, 2) := by decide +kernel
theorem dX8_readItem_92 : decode cX8_readItem 92 = .ok (.invokevirtual 155, 3) := by decide +kernel
theorem dX8_readItem_95 : decode cX8_readItem 95 = .ok (.goto 4, 3) := by decide +kernel
theorem dX8_readItem_98 : decode cX8_readItem 98 = .ok (.iconst 0, 1) := by decide +kernel
theorem dX8_readItem_99 : decode cX8_readItem 99 = .ok (.istore 5, 2) := by decide +kernel
theorem dX8_readItem_101 : decode cX8_readItem 101 = .ok (.iload_n 1, 1) := by decide +kernel
theorem dX8_readItem_102 : decode cX8_readItem 102 = .ok (.ifCond .eq 12, 3) := by decide +kernel
theorem dX8_readItem_105 : decode cX8_readItem 105 = .ok (.aload_n 0, 1) := by decide +kernel
theorem dX8_readItem_106 : decode cX8_readItem 106 = .ok (.iconst 0, 1) := by decide +kernel
theorem dX8_readItem_107 : decode cX8_readItem 107 = .ok (.iconst 3, 1) := by decide +kernel
theorem dX8_readItem_108 : decode cX8_readItem 108 = .ok (.invokevirtual 155, 3) := by decide +kernel
theorem dX8_readItem_111 : decode cX8_readItem 111 = .ok (.goto 4, 3) := by decide +kernel
theorem dX8_readItem_114 : decode cX8_readItem 114 = .ok (.iconst 0, 1) := by decide +kernel
theorem dX8_readItem_115 : decode cX8_readItem 115 = .ok (.istore 6, 2) := by decide +kernel
theorem dX8_readItem_117 : decode cX8_readItem 117 = .ok (.iload_n 1, 1) := by decide +kernel
theorem dX8_readItem_118 : decode cX8_readItem 118 = .ok (.ifCond .eq 17, 3) := by decide +kernel
theorem dX8_readItem_121 : decode cX8_readItem 121 = .ok (.aload_n 0, 1) := by decide +kernel
theorem dX8_readItem_122 : decode cX8_readItem 122 = .ok (.ldc2_w 158, 3) := by decide +kernel
theorem dX8_readItem_125 : decode cX8_readItem 125 = .ok (.invokevirtual 149, 3) := by decide +kernel
theorem dX8_readItem_128 : decode cX8_readItem 128 = .ok (.ifCond .eq 7, 3) := by decide +kernel
theorem dX8_readItem_131 : decode cX8_readItem 131 = .ok (.iconst 1, 1) := by decide +kernel
theorem dX8_readItem_132 : decode cX8_readItem 132 = .ok (.goto 4, 3) := by decide +kernel
theorem dX8_readItem_135 : decode cX8_readItem 135 = .ok (.iconst 0, 1) := by decide +kernel
theorem dX8_readItem_136 : decode cX8_readItem 136 = .ok (.istore 7, 2) := by decide +kernel
theorem dX8_readItem_138 : decode cX8_readItem 138 = .ok (.iload 7, 2) := by decide +kernel
theorem dX8_readItem_140 : decode cX8_readItem 140 = .ok (.ifCond .eq 8, 3) := by decide +kernel
theorem dX8_readItem_143 : decode cX8_readItem 143 = .ok (.aload_n 0, 1) := by decide +kernel
theorem dX8_readItem_144 : decode cX8_readItem 144 = .ok (.iconst 1, 1) := by decide +kernel
theorem dX8_readItem_145 : decode cX8_readItem 145 = .ok (.invokevirtual 143, 3) := by decide +kernel
theorem dX8_readItem_148 : decode cX8_readItem 148 = .ok (.aload_n 0, 1) := by decide +kernel
theorem dX8_readItem_149 : decode cX8_readItem 149 = .ok (.aload_n 0, 1) := by decide +kernel
theorem dX8_readItem_150 : decode cX8_readItem 150 = .ok (.getfield 121, 3) := by decide +kernel
theorem dX8_readItem_153 : decode cX8_readItem 153 = .ok (.iconst 2, 1) := by decide +kernel
theorem dX8_readItem_154 : decode cX8_readItem 154 = .ok (.if_icmp .ne 7, 3) := by decide +kernel
theorem dX8_readItem_157 : decode cX8_readItem 157 = .ok (.iconst 1, 1) := by decide +kernel
theorem dX8_readItem_158 : decode cX8_readItem 158 = .ok (.goto 4, 3) := by decide +kernel
theorem dX8_readItem_161 : decode cX8_readItem 161 = .ok (.iconst 0, 1) := by decide +kernel
theorem dX8_readItem_162 : decode cX8_readItem 162 = .ok (.invokevirtual 143, 3) := by decide +kernel
theorem dX8_readItem_165 : decode cX8_readItem 165 = .ok (.aload_n 0, 1) := by decide +kernel
theorem dX8_readItem_166 : decode cX8_readItem 166 = .ok (.getfield 136, 3) := by decide +kernel
theorem dX8_readItem_169 : decode cX8_readItem 169 = .ok (.ifCond .ne 56, 3) := by decide +kernel
theorem dX8_readItem_172 : decode cX8_readItem 172 = .ok (.iload_n 1, 1) := by decide +kernel
theorem dX8_readItem_173 : decode cX8_readItem 173 = .ok (.ifCond .eq 28, 3) := by decide +kernel
theorem dX8_readItem_176 : decode cX8_readItem 176 = .ok (.aload_n 0, 1) := by decide +kernel
theorem dX8_readItem_177 : decode cX8_readItem 177 = .ok (.iload_n 2, 1) := by decide +kernel
theorem dX8_readItem_178 : decode cX8_readItem 178 = .ok (.iload_n 3, 1) := by decide +kernel
theorem dX8_readItem_179 : decode cX8_readItem 179 = .ok (.iload 4, 2) := by decide +kernel
theorem dX8_readItem_181 : decode cX8_readItem 181 = .ok (.iload 5, 2) := by decide +kernel
theorem dX8_readItem_183 : decode cX8_readItem 183 = .ok (.iload 6, 2) := by decide +kernel
theorem dX8_readItem_185 : decode cX8_readItem 185 = .ok (.iload 7, 2) := by decide +kernel
theorem dX8_readItem_187 : decode cX8_readItem 187 = .ok (.ifCond .eq 7, 3) := by decide +kernel
theorem dX8_readItem_190 : decode cX8_readItem 190 = .ok (.iconst 1, 1) := by decide +kernel
theorem dX8_readItem_191 : decode cX8_readItem 191 = .ok (.goto 4, 3) := by decide +kernel
theorem dX8_readItem_194 : decode cX8_readItem 194 = .ok (.iconst 0, 1) := by decide +kernel
theorem dX8_readItem_195 : decode cX8_readItem 195 = .ok (.invokevirtual 54, 3) := by decide +kernel
theorem dX8_readItem_198 : decode cX8_readItem 198 = .ok (.goto 11, 3) := by decide +kernel
theorem dX8_readItem_201 : decode cX8_readItem 201 = .ok (.aload_n 0, 1) := by decide +kernel
theorem dX8_readItem_202 : decode cX8_readItem 202 = .ok (.iload_n 2, 1) := by decide +kernel
theorem dX8_readItem_203 : decode cX8_readItem 203 = .ok (.iload_n 3, 1) := by decide +kernel
theorem dX8_readItem_204 : decode cX8_readItem 204 = .ok (.iload 4, 2) := by decide +kernel
theorem dX8_readItem_206 : decode cX8_readItem 206 = .ok (.invokevirtual 65, 3) := by decide +kernel
theorem dX8_readItem_209 : decode cX8_readItem 209 = .ok (.istore 8, 2) := by decide +kernel
theorem dX8_readItem_211 : decode cX8_readItem 211 = .ok (.aload_n 0, 1) := by decide +kernel
theorem dX8_readItem_212 : decode cX8_readItem 212 = .ok (.iload 8, 2) := by decide +kernel
theorem dX8_readItem_214 : decode cX8_readItem 214 = .ok (.ifCond .ge 7, 3) := by decide +kernel
theorem dX8_readItem_217 : decode cX8_readItem 217 = .ok (.iconst 1, 1) := by decide +kernel
theorem dX8_readItem_218 : decode cX8_readItem 218 = .ok (.goto 4, 3) := by decide +kernel
theorem dX8_readItem_221 : decode cX8_readItem 221 = .ok (.iconst 0, 1) := by decide +kernel
theorem dX8_readItem_222 : decode cX8_readItem 222 = .ok (.putfield 136, 3) := by decide +kernel
theorem dX8_readItem_225 : decode cX8_readItem 225 = .ok (.return_, 1) := by decide +kernel
theorem dX8_exchange_0 : decode cX8_exchange 0 = .ok (.iconst 0, 1) := by decide +kernel
theorem dX8_exchange_1 : decode cX8_exchange 1 = .ok (.istore_n 1, 1) := by decide +kernel
theorem dX8_exchange_2 : decode cX8_exchange 2 = .ok (.iload_n 1, 1) := by decide +kernel
theorem dX8_exchange_3 : decode cX8_exchange 3 = .ok (.sipush 572, 3) := by decide +kernel
theorem dX8_exchange_6 : decode cX8_exchange 6 = .ok (.if_icmp .ge 35, 3) := by decide +kernel
theorem dX8_exchange_9 : decode cX8_exchange 9 = .ok (.aload_n 0, 1) := by decide +kernel
theorem dX8_exchange_10 : decode cX8_exchange 10 = .ok (.getfield 7, 3) := by decide +kernel
theorem dX8_exchange_13 : decode cX8_exchange 13 = .ok (.iload_n 1, 1) := by decide +kernel
theorem dX8_exchange_14 : decode cX8_exchange 14 = .ok (.iaload, 1) := by decide +kernel
theorem dX8_exchange_15 : decode cX8_exchange 15 = .ok (.istore_n 2, 1) := by decide +kernel
theorem dX8_exchange_16 : decode cX8_exchange 16 = .ok (.aload_n 0, 1) := by decide +kernel
theorem dX8_exchange_17 : decode cX8_exchange 17 = .ok (.getfield 7, 3) := by decide +kernel
theorem dX8_exchange_20 : decode cX8_exchange 20 = .ok (.iload_n 1, 1) := by decide +kernel
theorem dX8_exchange_21 : decode cX8_exchange 21 = .ok (.aload_n 0, 1) := by decide +kernel
theorem dX8_exchange_22 : decode cX8_exchange 22 = .ok (.getfield 13, 3) := by decide +kernel
theorem dX8_exchange_25 : decode cX8_exchange 25 = .ok (.iload_n 1, 1) := by decide +kernel
theorem dX8_exchange_26 : decode cX8_exchange 26 = .ok (.iaload, 1) := by decide +kernel
theorem dX8_exchange_27 : decode cX8_exchange 27 = .ok (.iastore, 1) := by decide +kernel
theorem dX8_exchange_28 : decode cX8_exchange 28 = .ok (.aload_n 0, 1) := by decide +kernel
theorem dX8_exchange_29 : decode cX8_exchange 29 = .ok (.getfield 13, 3) := by decide +kernel
theorem dX8_exchange_32 : decode cX8_exchange 32 = .ok (.iload_n 1, 1) := by decide +kernel
theorem dX8_exchange_33 : decode cX8_exchange 33 = .ok (.iload_n 2, 1) := by decide +kernel
theorem dX8_exchange_34 : decode cX8_exchange 34 = .ok (.iastore, 1) := by decide +kernel
theorem dX8_exchange_35 : decode cX8_exchange 35 = .ok (.iinc 1 1, 3) := by decide +kernel
theorem dX8_exchange_38 : decode cX8_exchange 38 = .ok (.goto (-36), 3) := by decide +kernel
theorem dX8_exchange_41 : decode cX8_exchange 41 = .ok (.return_, 1) := by decide +kernel
theorem dX8_load_0 : decode cX8_load 0 = .ok (.aload_n 0, 1) := by decide +kernel
theorem dX8_load_1 : decode cX8_load 1 = .ok (.iconst 0, 1) := by decide +kernel
theorem dX8_load_2 : decode cX8_load 2 = .ok (.putfield 22, 3) := by decide +kernel
theorem dX8_load_5 : decode cX8_load 5 = .ok (.iconst 0, 1) := by decide +kernel
theorem dX8_load_6 : decode cX8_load 6 = .ok (.istore_n 1, 1) := by decide +kernel
theorem dX8_load_7 : decode cX8_load 7 = .ok (.iload_n 1, 1) := by decide +kernel
theorem dX8_load_8 : decode cX8_load 8 = .ok (.sipush 572, 3) := by decide +kernel
theorem dX8_load_11 : decode cX8_load 11 = .ok (.if_icmp .ge 21, 3) := by decide +kernel
theorem dX8_load_14 : decode cX8_load 14 = .ok (.aload_n 0, 1) := by decide +kernel
theorem dX8_load_15 : decode cX8_load 15 = .ok (.getfield 13, 3) := by decide +kernel
theorem dX8_load_18 : decode cX8_load 18 = .ok (.iload_n 1, 1) := by decide +kernel
theorem dX8_load_19 : decode cX8_load 19 = .ok (.aload_n 0, 1) := by decide +kernel
theorem dX8_load_20 : decode cX8_load 20 = .ok (.getfield 7, 3) := by decide +kernel
theorem dX8_load_23 : decode cX8_load 23 = .ok (.iload_n 1, 1) := by decide +kernel
theorem dX8_load_24 : decode cX8_load 24 = .ok (.iaload, 1) := by decide +kernel
theorem dX8_load_25 : decode cX8_load 25 = .ok (.iastore, 1) := by decide +kernel
theorem dX8_load_26 : decode cX8_load 26 = .ok (.iinc 1 1, 3) := by decide +kernel
theorem dX8_load_29 : decode cX8_load 29 = .ok (.goto (-22), 3) := by decide +kernel
theorem dX8_load_32 : decode cX8_load 32 = .ok (.aload_n 0, 1) := by decide +kernel
theorem dX8_load_33 : decode cX8_load 33 = .ok (.iconst 0, 1) := by decide +kernel
theorem dX8_load_34 : decode cX8_load 34 = .ok (.putfield 107, 3) := by decide +kernel
theorem dX8_load_37 : decode cX8_load 37 = .ok (.aload_n 0, 1) := by decide +kernel
theorem dX8_load_38 : decode cX8_load 38 = .ok (.iconst 0, 1) := by decide +kernel
theorem dX8_load_39 : decode cX8_load 39 = .ok (.putfield 136, 3) := by decide +kernel
theorem dX8_load_42 : decode cX8_load 42 = .ok (.iconst 0, 1) := by decide +kernel
theorem dX8_load_43 : decode cX8_load 43 = .ok (.istore_n 1, 1) := by decide +kernel
theorem dX8_load_44 : decode cX8_load 44 = .ok (.aload_n 0, 1) := by decide +kernel
theorem dX8_load_45 : decode cX8_load 45 = .ok (.invokevirtual 140, 3) := by decide +kernel
theorem dX8_load_48 : decode cX8_load 48 = .ok (.aload_n 0, 1) := by decide +kernel
theorem dX8_load_49 : decode cX8_load 49 = .ok (.getfield 136, 3) := by decide +kernel
theorem dX8_load_52 : decode cX8_load 52 = .ok (.ifCond .ne 21, 3) := by decide +kernel
theorem dX8_load_55 : decode cX8_load 55 = .ok (.aload_n 0, 1) := by decide +kernel
theorem dX8_load_56 : decode cX8_load 56 = .ok (.getfield 121, 3) := by decide +kernel
theorem dX8_load_59 : decode cX8_load 59 = .ok (.iconst 4, 1) := by decide +kernel
theorem dX8_load_60 : decode cX8_load 60 = .ok (.if_icmp .eq 13, 3) := by decide +kernel
theorem dX8_load_63 : decode cX8_load 63 = .ok (.aload_n 0, 1) := by decide +kernel
theorem dX8_load_64 : decode cX8_load 64 = .ok (.invokevirtual 160, 3) := by decide +kernel
theorem dX8_load_67 : decode cX8_load 67 = .ok (.iinc 1 1, 3) := by decide +kernel
theorem dX8_load_70 : decode cX8_load 70 = .ok (.goto (-22), 3) := by decide +kernel
theorem dX8_load_73 : decode cX8_load 73 = .ok (.aload_n 0, 1) := by decide +kernel
theorem dX8_load_74 : decode cX8_load 74 = .ok (.invokevirtual 163, 3) := by decide +kernel
theorem dX8_load_77 : decode cX8_load 77 = .ok (.aload_n 0, 1) := by decide +kernel
theorem dX8_load_78 : decode cX8_load 78 = .ok (.getfield 136, 3) := by decide +kernel
theorem dX8_load_81 : decode cX8_load 81 = .ok (.ifCond .eq 12, 3) := by decide +kernel
theorem dX8_load_84 : decode cX8_load 84 = .ok (.sipush (-10000), 3) := by decide +kernel
theorem dX8_load_87 : decode cX8_load 87 = .ok (.aload_n 0, 1) := by decide +kernel
theorem dX8_load_88 : decode cX8_load 88 = .ok (.getfield 114, 3) := by decide +kernel
theorem dX8_load_91 : decode cX8_load 91 = .ok (.isub, 1) := by decide +kernel
theorem dX8_load_92 : decode cX8_load 92 = .ok (.ireturn, 1) := by decide +kernel
theorem dX8_load_93 : decode cX8_load 93 = .ok (.aload_n 0, 1) := by decide +kernel
theorem dX8_load_94 : decode cX8_load 94 = .ok (.invokevirtual 29, 3) := by decide +kernel
theorem dX8_load_97 : decode cX8_load 97 = .ok (.aload_n 0, 1) := by decide +kernel
theorem dX8_load_98 : decode cX8_load 98 = .ok (.invokevirtual 163, 3) := by decide +kernel
theorem dX8_load_101 : decode cX8_load 101 = .ok (.aload_n 0, 1) := by decide +kernel
theorem dX8_load_102 : decode cX8_load 102 = .ok (.iconst 0, 1) := by decide +kernel
theorem dX8_load_103 : decode cX8_load 103 = .ok (.putfield 104, 3) := by decide +kernel
theorem dX8_load_106 : decode cX8_load 106 = .ok (.iload_n 1, 1) := by decide +kernel
theorem dX8_load_107 : decode cX8_load 107 = .ok (.ireturn, 1) := by decide +kernel
theorem dX8_wear_0 : decode cX8_wear 0 = .ok (.aload_n 0, 1) := by decide +kernel
theorem dX8_wear_1 : decode cX8_wear 1 = .ok (.iconst 0, 1) := by decide +kernel
theorem dX8_wear_2 : decode cX8_wear 2 = .ok (.putfield 22, 3) := by decide +kernel
theorem dX8_wear_5 : decode cX8_wear 5 = .ok (.iload_n 1, 1) := by decide +kernel
theorem dX8_wear_6 : decode cX8_wear 6 = .ok (.invokestatic 166, 3) := by decide +kernel
theorem dX8_wear_9 : decode cX8_wear 9 = .ok (.ifCond .eq 24, 3) := by decide +kernel
theorem dX8_wear_12 : decode cX8_wear 12 = .ok (.aload_n 0, 1) := by decide +kernel
theorem dX8_wear_13 : decode cX8_wear 13 = .ok (.iload_n 2, 1) := by decide +kernel
theorem dX8_wear_14 : decode cX8_wear 14 = .ok (.invokevirtual 169, 3) := by decide +kernel
theorem dX8_wear_17 : decode cX8_wear 17 = .ok (.ifCond .eq 16, 3) := by decide +kernel
theorem dX8_wear_20 : decode cX8_wear 20 = .ok (.iload_n 3, 1) := by decide +kernel
theorem dX8_wear_21 : decode cX8_wear 21 = .ok (.iconst (-1), 1) := by decide +kernel
theorem dX8_wear_22 : decode cX8_wear 22 = .ok (.if_icmp .eq 15, 3) := by decide +kernel
theorem dX8_wear_25 : decode cX8_wear 25 = .ok (.aload_n 0, 1) := by decide +kernel
theorem dX8_wear_26 : decode cX8_wear 26 = .ok (.iload_n 3, 1) := by decide +kernel
theorem dX8_wear_27 : decode cX8_wear 27 = .ok (.invokevirtual 58, 3) := by decide +kernel
theorem dX8_wear_30 : decode cX8_wear 30 = .ok (.ifCond .ne 7, 3) := by decide +kernel
theorem dX8_wear_33 : decode cX8_wear 33 = .ok (.sipush (-2001), 3) := by decide +kernel
theorem dX8_wear_36 : decode cX8_wear 36 = .ok (.ireturn, 1) := by decide +kernel
theorem dX8_wear_37 : decode cX8_wear 37 = .ok (.aload_n 0, 1) := by decide +kernel
theorem dX8_wear_38 : decode cX8_wear 38 = .ok (.sipush 356, 3) := by decide +kernel
theorem dX8_wear_41 : decode cX8_wear 41 = .ok (.bipush 8, 2) := by decide +kernel
theorem dX8_wear_43 : decode cX8_wear 43 = .ok (.iload_n 1, 1) := by decide +kernel
theorem dX8_wear_44 : decode cX8_wear 44 = .ok (.imul, 1) := by decide +kernel
theorem dX8_wear_45 : decode cX8_wear 45 = .ok (.iadd, 1) := by decide +kernel
theorem dX8_wear_46 : decode cX8_wear 46 = .ok (.iload_n 2, 1) := by decide +kernel
theorem dX8_wear_47 : decode cX8_wear 47 = .ok (.iadd, 1) := by decide +kernel
theorem dX8_wear_48 : decode cX8_wear 48 = .ok (.iload_n 3, 1) := by decide +kernel
theorem dX8_wear_49 : decode cX8_wear 49 = .ok (.invokevirtual 61, 3) := by decide +kernel
theorem dX8_wear_52 : decode cX8_wear 52 = .ok (.ireturn, 1) := by decide +kernel
theorem dX8_wearers_0 : decode cX8_wearers 0 = .ok (.iconst 0, 1) := by decide +kernel
theorem dX8_wearers_1 : decode cX8_wearers 1 = .ok (.istore_n 3, 1) := by decide +kernel
theorem dX8_wearers_2 : decode cX8_wearers 2 = .ok (.iconst 0, 1) := by decide +kernel
theorem dX8_wearers_3 : decode cX8_wearers 3 = .ok (.istore 4, 2) := by decide +kernel
theorem dX8_wearers_5 : decode cX8_wearers 5 = .ok (.iload 4, 2) := by decide +kernel
theorem dX8_wearers_7 : decode cX8_wearers 7 = .ok (.aload_n 0, 1) := by decide +kernel
theorem dX8_wearers_8 : decode cX8_wearers 8 = .ok (.getfield 7, 3) := by decide +kernel
theorem dX8_wearers_11 : decode cX8_wearers 11 = .ok (.iconst 1, 1) := by decide +kernel
theorem dX8_wearers_12 : decode cX8_wearers 12 = .ok (.iaload, 1) := by decide +kernel
theorem dX8_wearers_13 : decode cX8_wearers 13 = .ok (.if_icmp .ge 28, 3) := by decide +kernel
theorem dX8_wearers_16 : decode cX8_wearers 16 = .ok (.iload_n 3, 1) := by decide +kernel
theorem dX8_wearers_17 : decode cX8_wearers 17 = .ok (.aload_n 0, 1) := by decide +kernel
theorem dX8_wearers_18 : decode cX8_wearers 18 = .ok (.iload_n 1, 1) := by decide +kernel
theorem dX8_wearers_19 : decode cX8_wearers 19 = .ok (.iload 4, 2) := by decide +kernel
theorem dX8_wearers_21 : decode cX8_wearers 21 = .ok (.invokevirtual 172, 3) := by decide +kernel
theorem dX8_wearers_24 : decode cX8_wearers 24 = .ok (.iload_n 2, 1) := by decide +kernel
theorem dX8_wearers_25 : decode cX8_wearers 25 = .ok (.if_icmp .ne 7, 3) := by decide +kernel
theorem dX8_wearers_28 : decode cX8_wearers 28 = .ok (.iconst 1, 1) := by decide +kernel
theorem dX8_wearers_29 : decode cX8_wearers 29 = .ok (.goto 4, 3) := by decide +kernel
theorem dX8_wearers_32 : decode cX8_wearers 32 = .ok (.iconst 0, 1) := by decide +kernel
theorem dX8_wearers_33 : decode cX8_wearers 33 = .ok (.iadd, 1) := by decide +kernel
theorem dX8_wearers_34 : decode cX8_wearers 34 = .ok (.istore_n 3, 1) := by decide +kernel
theorem dX8_wearers_35 : decode cX8_wearers 35 = .ok (.iinc 4 1, 3) := by decide +kernel
theorem dX8_wearers_38 : decode cX8_wearers 38 = .ok (.goto (-33), 3) := by decide +kernel
theorem dX8_wearers_41 : decode cX8_wearers 41 = .ok (.iload_n 3, 1) := by decide +kernel
theorem dX8_wearers_42 : decode cX8_wearers 42 = .ok (.ireturn, 1) := by decide +kernel
theorem dX8_scenesOf_0 : decode cX8_scenesOf 0 = .ok (.iconst 0, 1) := by decide +kernel
theorem dX8_scenesOf_1 : decode cX8_scenesOf 1 = .ok (.istore_n 2, 1) := by decide +kernel
theorem dX8_scenesOf_2 : decode cX8_scenesOf 2 = .ok (.iconst 0, 1) := by decide +kernel
theorem dX8_scenesOf_3 : decode cX8_scenesOf 3 = .ok (.istore_n 3, 1) := by decide +kernel
theorem dX8_scenesOf_4 : decode cX8_scenesOf 4 = .ok (.iload_n 3, 1) := by decide +kernel
theorem dX8_scenesOf_5 : decode cX8_scenesOf 5 = .ok (.bipush 12, 2) := by decide +kernel
theorem dX8_scenesOf_7 : decode cX8_scenesOf 7 = .ok (.if_icmp .ge 26, 3) := by decide +kernel
theorem dX8_scenesOf_10 : decode cX8_scenesOf 10 = .ok (.iload_n 2, 1) := by decide +kernel
theorem dX8_scenesOf_11 : decode cX8_scenesOf 11 = .ok (.aload_n 0, 1) := by decide +kernel
theorem dX8_scenesOf_12 : decode cX8_scenesOf 12 = .ok (.iload_n 3, 1) := by decide +kernel
theorem dX8_scenesOf_13 : decode cX8_scenesOf 13 = .ok (.iload_n 1, 1) := by decide +kernel
theorem dX8_scenesOf_14 : decode cX8_scenesOf 14 = .ok (.invokevirtual 175, 3) := by decide +kernel
theorem dX8_scenesOf_17 : decode cX8_scenesOf 17 = .ok (.ifCond .le 7, 3) := by decide +kernel
theorem dX8_scenesOf_20 : decode cX8_scenesOf 20 = .ok (.iconst 1, 1) := by decide +kernel
theorem dX8_scenesOf_21 : decode cX8_scenesOf 21 = .ok (.goto 4, 3) := by decide +kernel
theorem dX8_scenesOf_24 : decode cX8_scenesOf 24 = .ok (.iconst 0, 1) := by decide +kernel
theorem dX8_scenesOf_25 : decode cX8_scenesOf 25 = .ok (.iadd, 1) := by decide +kernel
theorem dX8_scenesOf_26 : decode cX8_scenesOf 26 = .ok (.istore_n 2, 1) := by decide +kernel
theorem dX8_scenesOf_27 : decode cX8_scenesOf 27 = .ok (.iinc 3 1, 3) := by decide +kernel
theorem dX8_scenesOf_30 : decode cX8_scenesOf 30 = .ok (.goto (-26), 3) := by decide +kernel
theorem dX8_scenesOf_33 : decode cX8_scenesOf 33 = .ok (.iload_n 2, 1) := by decide +kernel
theorem dX8_scenesOf_34 : decode cX8_scenesOf 34 = .ok (.ireturn, 1) := by decide +kernel
theorem dX8_isHanded_0 : decode cX8_isHanded 0 = .ok (.iconst 0, 1) := by decide +kernel
theorem dX8_isHanded_1 : decode cX8_isHanded 1 = .ok (.istore_n 3, 1) := by decide +kernel
theorem dX8_isHanded_2 : decode cX8_isHanded 2 = .ok (.iconst 0, 1) := by decide +kernel
theorem dX8_isHanded_3 : decode cX8_isHanded 3 = .ok (.istore 4, 2) := by decide +kernel
theorem dX8_isHanded_5 : decode cX8_isHanded 5 = .ok (.iload 4, 2) := by decide +kernel
theorem dX8_isHanded_7 : decode cX8_isHanded 7 = .ok (.aload_n 0, 1) := by decide +kernel
theorem dX8_isHanded_8 : decode cX8_isHanded 8 = .ok (.getfield 7, 3) := by decide +kernel
theorem dX8_isHanded_11 : decode cX8_isHanded 11 = .ok (.iconst 1, 1) := by decide +kernel
theorem dX8_isHanded_12 : decode cX8_isHanded 12 = .ok (.iaload, 1) := by decide +kernel
theorem dX8_isHanded_13 : decode cX8_isHanded 13 = .ok (.if_icmp .ge 43, 3) := by decide +kernel
theorem dX8_isHanded_16 : decode cX8_isHanded 16 = .ok (.iload_n 3, 1) := by decide +kernel
theorem dX8_isHanded_17 : decode cX8_isHanded 17 = .ok (.ifCond .ne 27, 3) := by decide +kernel
theorem dX8_isHanded_20 : decode cX8_isHanded 20 = .ok (.aload_n 0, 1) := by decide +kernel
theorem dX8_isHanded_21 : decode cX8_isHanded 21 = .ok (.iload_n 1, 1) := by decide +kernel
theorem dX8_isHanded_22 : decode cX8_isHanded 22 = .ok (.iconst 1, 1) := by decide +kernel
theorem dX8_isHanded_23 : decode cX8_isHanded 23 = .ok (.iadd, 1) := by decide +kernel
theorem dX8_isHanded_24 : decode cX8_isHanded 24 = .ok (.iload 4, 2) := by decide +kernel
theorem dX8_isHanded_26 : decode cX8_isHanded 26 = .ok (.invokevirtual 172, 3) := by decide +kernel
theorem dX8_isHanded_29 : decode cX8_isHanded 29 = .ok (.iload_n 2, 1) := by decide +kernel
theorem dX8_isHanded_30 : decode cX8_isHanded 30 = .ok (.if_icmp .ne 18, 3) := by decide +kernel
theorem dX8_isHanded_33 : decode cX8_isHanded 33 = .ok (.aload_n 0, 1) := by decide +kernel
theorem dX8_isHanded_34 : decode cX8_isHanded 34 = .ok (.iload_n 1, 1) := by decide +kernel
theorem dX8_isHanded_35 : decode cX8_isHanded 35 = .ok (.iload 4, 2) := by decide +kernel
theorem dX8_isHanded_37 : decode cX8_isHanded 37 = .ok (.invokevirtual 172, 3) := by decide +kernel
theorem dX8_isHanded_40 : decode cX8_isHanded 40 = .ok (.iload_n 2, 1) := by decide +kernel
theorem dX8_isHanded_41 : decode cX8_isHanded 41 = .ok (.if_icmp .eq 7, 3) := by decide +kernel
theorem dX8_isHanded_44 : decode cX8_isHanded 44 = .ok (.iconst 1, 1) := by decide +kernel
theorem dX8_isHanded_45 : decode cX8_isHanded 45 = .ok (.goto 4, 3) := by decide +kernel
theorem dX8_isHanded_48 : decode cX8_isHanded 48 = .ok (.iconst 0, 1) := by decide +kernel
theorem dX8_isHanded_49 : decode cX8_isHanded 49 = .ok (.istore_n 3, 1) := by decide +kernel
theorem dX8_isHanded_50 : decode cX8_isHanded 50 = .ok (.iinc 4 1, 3) := by decide +kernel
theorem dX8_isHanded_53 : decode cX8_isHanded 53 = .ok (.goto (-48), 3) := by decide +kernel
theorem dX8_isHanded_56 : decode cX8_isHanded 56 = .ok (.iload_n 3, 1) := by decide +kernel
theorem dX8_isHanded_57 : decode cX8_isHanded 57 = .ok (.ifCond .eq 16, 3) := by decide +kernel
theorem dX8_isHanded_60 : decode cX8_isHanded 60 = .ok (.aload_n 0, 1) := by decide +kernel
theorem dX8_isHanded_61 : decode cX8_isHanded 61 = .ok (.iload_n 1, 1) := by decide +kernel
theorem dX8_isHanded_62 : decode cX8_isHanded 62 = .ok (.iload_n 2, 1) := by decide +kernel
theorem dX8_isHanded_63 : decode cX8_isHanded 63 = .ok (.invokevirtual 175, 3) := by decide +kernel
theorem dX8_isHanded_66 : decode cX8_isHanded 66 = .ok (.ifCond .le 7, 3) := by decide +kernel
theorem dX8_isHanded_69 : decode cX8_isHanded 69 = .ok (.iconst 1, 1) := by decide +kernel
theorem dX8_isHanded_70 : decode cX8_isHanded 70 = .ok (.goto 4, 3) := by decide +kernel
theorem dX8_isHanded_73 : decode cX8_isHanded 73 = .ok (.iconst 0, 1) := by decide +kernel
theorem dX8_isHanded_74 : decode cX8_isHanded 74 = .ok (.ireturn, 1) := by decide +kernel
theorem dX8_costumeProblems_0 : decode cX8_costumeProblems 0 = .ok (.iconst 0, 1) := by decide +kernel
theorem dX8_costumeProblems_1 : decode cX8_costumeProblems 1 = .ok (.istore_n 2, 1) := by decide +kernel
theorem dX8_costumeProblems_2 : decode cX8_costumeProblems 2 = .ok (.iconst 0, 1) := by decide +kernel
theorem dX8_costumeProblems_3 : decode cX8_costumeProblems 3 = .ok (.istore_n 3, 1) := by decide +kernel
theorem dX8_costumeProblems_4 : decode cX8_costumeProblems 4 = .ok (.iload_n 3, 1) := by decide +kernel
theorem dX8_costumeProblems_5 : decode cX8_costumeProblems 5 = .ok (.bipush 12, 2) := by decide +kernel
theorem dX8_costumeProblems_7 : decode cX8_costumeProblems 7 = .ok (.iload_n 1, 1) := by decide +kernel
theorem dX8_costumeProblems_8 : decode cX8_costumeProblems 8 = .ok (.isub, 1) := by decide +kernel
theorem dX8_costumeProblems_9 : decode cX8_costumeProblems 9 = .ok (.if_icmp .ge 65, 3) := by decide +kernel
theorem dX8_costumeProblems_12 : decode cX8_costumeProblems 12 = .ok (.iconst 0, 1) := by decide +kernel
theorem dX8_costumeProblems_13 : decode cX8_costumeProblems 13 = .ok (.istore 4, 2) := by decide +kernel
theorem dX8_costumeProblems_15 : decode cX8_costumeProblems 15 = .ok (.iload 4, 2) := by decide +kernel
theorem dX8_costumeProblems_17 : decode cX8_costumeProblems 17 = .ok (.aload_n 0, 1) := by decide +kernel
theorem dX8_costumeProblems_18 : decode cX8_costumeProblems 18 = .ok (.getfield 7, 3) := by decide +kernel
theorem dX8_costumeProblems_21 : decode cX8_costumeProblems 21 = .ok (.iconst 0, 1) := by decide +kernel
theorem dX8_costumeProblems_22 : decode cX8_costumeProblems 22 = .ok (.iaload, 1) := by decide +kernel
theorem dX8_costumeProblems_23 : decode cX8_costumeProblems 23 = .ok (.if_icmp .ge 45, 3) := by decide +kernel
theorem dX8_costumeProblems_26 : decode cX8_costumeProblems 26 = .ok (.iload_n 2, 1) := by decide +kernel
theorem dX8_costumeProblems_27 : decode cX8_costumeProblems 27 = .ok (.iload_n 1, 1) := by decide +kernel
theorem dX8_costumeProblems_28 : decode cX8_costumeProblems 28 = .ok (.ifCond .ne 17, 3) := by decide +kernel
theorem dX8_costumeProblems_31 : decode cX8_costumeProblems 31 = .ok (.aload_n 0, 1) := by decide +kernel
theorem dX8_costumeProblems_32 : decode cX8_costumeProblems 32 = .ok (.iload_n 3, 1) := by decide +kernel
theorem dX8_costumeProblems_33 : decode cX8_costumeProblems 33 = .ok (.iload 4, 2) := by decide +kernel
theorem dX8_costumeProblems_35 : decode cX8_costumeProblems 35 = .ok (.invokevirtual 175, 3) := by decide +kernel
theorem dX8_costumeProblems_38 : decode cX8_costumeProblems 38 = .ok (.iconst 1, 1) := by decide +kernel
theorem dX8_costumeProblems_39 : decode cX8_costumeProblems 39 = .ok (.if_icmp .le 20, 3) := by decide +kernel
theorem dX8_costumeProblems_42 : decode cX8_costumeProblems 42 = .ok (.goto 13, 3) := by decide +kernel
theorem dX8_costumeProblems_45 : decode cX8_costumeProblems 45 = .ok (.aload_n 0, 1) := by decide +kernel
theorem dX8_costumeProblems_46 : decode cX8_costumeProblems 46 = .ok (.iload_n 3, 1) := by decide +kernel
theorem dX8_costumeProblems_47 : decode cX8_costumeProblems 47 = .ok (.iload 4, 2) := by decide +kernel
theorem dX8_costumeProblems_49 : decode cX8_costumeProblems 49 = .ok (.invokevirtual 178, 3) := by decide +kernel
theorem dX8_costumeProblems_52 : decode cX8_costumeProblems 52 = .ok (.ifCond .eq 7, 3) := by decide +kernel
theorem dX8_costumeProblems_55 : decode cX8_costumeProblems 55 = .ok (.iconst 1, 1) := by decide +kernel
theorem dX8_costumeProblems_56 : decode cX8_costumeProblems 56 = .ok (.goto 4, 3) := by decide +kernel
theorem dX8_costumeProblems_59 : decode cX8_costumeProblems 59 = .ok (.iconst 0, 1) := by decide +kernel
theorem dX8_costumeProblems_60 : decode cX8_costumeProblems 60 = .ok (.iadd, 1) := by decide +kernel
theorem dX8_costumeProblems_61 : decode cX8_costumeProblems 61 = .ok (.istore_n 2, 1) := by decide +kernel
theorem dX8_costumeProblems_62 : decode cX8_costumeProblems 62 = .ok (.iinc 4 1, 3) := by decide +kernel
theorem dX8_costumeProblems_65 : decode cX8_costumeProblems 65 = .ok (.goto (-50), 3) := by decide +kernel
theorem dX8_costumeProblems_68 : decode cX8_costumeProblems 68 = .ok (.iinc 3 1, 3) := by decide +kernel
theorem dX8_costumeProblems_71 : decode cX8_costumeProblems 71 = .ok (.goto (-67), 3) := by decide +kernel
theorem dX8_costumeProblems_74 : decode cX8_costumeProblems 74 = .ok (.iload_n 2, 1) := by decide +kernel
theorem dX8_costumeProblems_75 : decode cX8_costumeProblems 75 = .ok (.ireturn, 1) := by decide +kernel
theorem dX8_misfitOf_0 : decode cX8_misfitOf 0 = .ok (.iconst 0, 1) := by decide +kernel
theorem dX8_misfitOf_1 : decode cX8_misfitOf 1 = .ok (.istore_n 3, 1) := by decide +kernel
theorem dX8_misfitOf_2 : decode cX8_misfitOf 2 = .ok (.iconst 0, 1) := by decide +kernel
theorem dX8_misfitOf_3 : decode cX8_misfitOf 3 = .ok (.istore 4, 2) := by decide +kernel
theorem dX8_misfitOf_5 : decode cX8_misfitOf 5 = .ok (.iload 4, 2) := by decide +kernel
theorem dX8_misfitOf_7 : decode cX8_misfitOf 7 = .ok (.iconst 3, 1) := by decide +kernel
theorem dX8_misfitOf_8 : decode cX8_misfitOf 8 = .ok (.if_icmp .ge 30, 3) := by decide +kernel
theorem dX8_misfitOf_11 : decode cX8_misfitOf 11 = .ok (.iload_n 3, 1) := by decide +kernel
theorem dX8_misfitOf_12 : decode cX8_misfitOf 12 = .ok (.aload_n 0, 1) := by decide +kernel
theorem dX8_misfitOf_13 : decode cX8_misfitOf 13 = .ok (.iload_n 1, 1) := by decide +kernel
theorem dX8_misfitOf_14 : decode cX8_misfitOf 14 = .ok (.iload_n 2, 1) := by decide +kernel
theorem dX8_misfitOf_15 : decode cX8_misfitOf 15 = .ok (.iload 4, 2) := by decide +kernel
theorem dX8_misfitOf_17 : decode cX8_misfitOf 17 = .ok (.invokevirtual 181, 3) := by decide +kernel
theorem dX8_misfitOf_20 : decode cX8_misfitOf 20 = .ok (.aload_n 0, 1) := by decide +kernel
theorem dX8_misfitOf_21 : decode cX8_misfitOf 21 = .ok (.iload_n 1, 1) := by decide +kernel
theorem dX8_misfitOf_22 : decode cX8_misfitOf 22 = .ok (.iload 4, 2) := by decide +kernel
theorem dX8_misfitOf_24 : decode cX8_misfitOf 24 = .ok (.invokevirtual 78, 3) := by decide +kernel
theorem dX8_misfitOf_27 : decode cX8_misfitOf 27 = .ok (.invokestatic 99, 3) := by decide +kernel
theorem dX8_misfitOf_30 : decode cX8_misfitOf 30 = .ok (.iadd, 1) := by decide +kernel
theorem dX8_misfitOf_31 : decode cX8_misfitOf 31 = .ok (.istore_n 3, 1) := by decide +kernel
theorem dX8_misfitOf_32 : decode cX8_misfitOf 32 = .ok (.iinc 4 1, 3) := by decide +kernel
theorem dX8_misfitOf_35 : decode cX8_misfitOf 35 = .ok (.goto (-30), 3) := by decide +kernel
theorem dX8_misfitOf_38 : decode cX8_misfitOf 38 = .ok (.iload_n 3, 1) := by decide +kernel
theorem dX8_misfitOf_39 : decode cX8_misfitOf 39 = .ok (.ireturn, 1) := by decide +kernel
theorem dX8_wantedOf_0 : decode cX8_wantedOf 0 = .ok (.aload_n 0, 1) := by decide +kernel
theorem dX8_wantedOf_1 : decode cX8_wantedOf 1 = .ok (.iload_n 1, 1) := by decide +kernel
theorem dX8_wantedOf_2 : decode cX8_wantedOf 2 = .ok (.iload_n 3, 1) := by decide +kernel
theorem dX8_wantedOf_3 : decode cX8_wantedOf 3 = .ok (.invokevirtual 78, 3) := by decide +kernel
theorem dX8_wantedOf_6 : decode cX8_wantedOf 6 = .ok (.istore 4, 2) := by decide +kernel
theorem dX8_wantedOf_8 : decode cX8_wantedOf 8 = .ok (.aload_n 0, 1) := by decide +kernel
theorem dX8_wantedOf_9 : decode cX8_wantedOf 9 = .ok (.iload_n 2, 1) := by decide +kernel
theorem dX8_wantedOf_10 : decode cX8_wantedOf 10 = .ok (.iload_n 3, 1) := by decide +kernel
theorem dX8_wantedOf_11 : decode cX8_wantedOf 11 = .ok (.invokevirtual 184, 3) := by decide +kernel
theorem dX8_wantedOf_14 : decode cX8_wantedOf 14 = .ok (.istore 5, 2) := by decide +kernel
theorem dX8_wantedOf_16 : decode cX8_wantedOf 16 = .ok (.iload 5, 2) := by decide +kernel
theorem dX8_wantedOf_18 : decode cX8_wantedOf 18 = .ok (.aload_n 0, 1) := by decide +kernel
theorem dX8_wantedOf_19 : decode cX8_wantedOf 19 = .ok (.getfield 7, 3) := by decide +kernel
theorem dX8_wantedOf_22 : decode cX8_wantedOf 22 = .ok (.bipush 8, 2) := by decide +kernel
theorem dX8_wantedOf_24 : decode cX8_wantedOf 24 = .ok (.iload_n 3, 1) := by decide +kernel
theorem dX8_wantedOf_25 : decode cX8_wantedOf 25 = .ok (.iadd, 1) := by decide +kernel
theorem dX8_wantedOf_26 : decode cX8_wantedOf 26 = .ok (.iaload, 1) := by decide +kernel
theorem dX8_wantedOf_27 : decode cX8_wantedOf 27 = .ok (.iadd, 1) := by decide +kernel
theorem dX8_wantedOf_28 : decode cX8_wantedOf 28 = .ok (.istore 6, 2) := by decide +kernel
theorem dX8_wantedOf_30 : decode cX8_wantedOf 30 = .ok (.iload 4, 2) := by decide +kernel
theorem dX8_wantedOf_32 : decode cX8_wantedOf 32 = .ok (.iload 5, 2) := by decide +kernel
theorem dX8_wantedOf_34 : decode cX8_wantedOf 34 = .ok (.if_icmp .ge 8, 3) := by decide +kernel
theorem dX8_wantedOf_37 : decode cX8_wantedOf 37 = .ok (.iload 5, 2) := by decide +kernel
theorem dX8_wantedOf_39 : decode cX8_wantedOf 39 = .ok (.goto 17, 3) := by decide +kernel
theorem dX8_wantedOf_42 : decode cX8_wantedOf 42 = .ok (.iload 4, 2) := by decide +kernel
theorem dX8_wantedOf_44 : decode cX8_wantedOf 44 = .ok (.iload 6, 2) := by decide +kernel
theorem dX8_wantedOf_46 : decode cX8_wantedOf 46 = .ok (.if_icmp .le 8, 3) := by decide +kernel
theorem dX8_wantedOf_49 : decode cX8_wantedOf 49 = .ok (.iload 6, 2) := by decide +kernel
theorem dX8_wantedOf_51 : decode cX8_wantedOf 51 = .ok (.goto 5, 3) := by decide +kernel
theorem dX8_wantedOf_54 : decode cX8_wantedOf 54 = .ok (.iload 4, 2) := by decide +kernel
theorem dX8_wantedOf_56 : decode cX8_wantedOf 56 = .ok (.ireturn, 1) := by decide +kernel
theorem dX8_isProblem_0 : decode cX8_isProblem 0 = .ok (.iload_n 3, 1) := by decide +kernel
theorem dX8_isProblem_1 : decode cX8_isProblem 1 = .ok (.iconst 2, 1) := by decide +kernel
theorem dX8_isProblem_2 : decode cX8_isProblem 2 = .ok (.if_icmp .ne 20, 3) := by decide +kernel
theorem dX8_isProblem_5 : decode cX8_isProblem 5 = .ok (.aload_n 0, 1) := by decide +kernel
theorem dX8_isProblem_6 : decode cX8_isProblem 6 = .ok (.iload_n 1, 1) := by decide +kernel
theorem dX8_isProblem_7 : decode cX8_isProblem 7 = .ok (.iload_n 2, 1) := by decide +kernel
theorem dX8_isProblem_8 : decode cX8_isProblem 8 = .ok (.invokevirtual 187, 3) := by decide +kernel
theorem dX8_isProblem_11 : decode cX8_isProblem 11 = .ok (.ifCond .le 7, 3) := by decide +kernel
theorem dX8_isProblem_14 : decode cX8_isProblem 14 = .ok (.iconst 1, 1) := by decide +kernel
theorem dX8_isProblem_15 : decode cX8_isProblem 15 = .ok (.goto 42, 3) := by decide +kernel
theorem dX8_isProblem_18 : decode cX8_isProblem 18 = .ok (.iconst 0, 1) := by decide +kernel
theorem dX8_isProblem_19 : decode cX8_isProblem 19 = .ok (.goto 38, 3) := by decide +kernel
theorem dX8_isProblem_22 : decode cX8_isProblem 22 = .ok (.iload_n 3, 1) := by decide +kernel
theorem dX8_isProblem_23 : decode cX8_isProblem 23 = .ok (.iconst 3, 1) := by decide +kernel
theorem dX8_isProblem_24 : decode cX8_isProblem 24 = .ok (.if_icmp .ne 11, 3) := by decide +kernel
theorem dX8_isProblem_27 : decode cX8_isProblem 27 = .ok (.aload_n 0, 1) := by decide +kernel
theorem dX8_isProblem_28 : decode cX8_isProblem 28 = .ok (.iload_n 1, 1) := by decide +kernel
theorem dX8_isProblem_29 : decode cX8_isProblem 29 = .ok (.invokevirtual 92, 3) := by decide +kernel
theorem dX8_isProblem_32 : decode cX8_isProblem 32 = .ok (.goto 25, 3) := by decide +kernel
theorem dX8_isProblem_35 : decode cX8_isProblem 35 = .ok (.aload_n 0, 1) := by decide +kernel
theorem dX8_isProblem_36 : decode cX8_isProblem 36 = .ok (.iload_n 1, 1) := by decide +kernel
theorem dX8_isProblem_37 : decode cX8_isProblem 37 = .ok (.bipush 6, 2) := by decide +kernel
theorem dX8_isProblem_39 : decode cX8_isProblem 39 = .ok (.invokevirtual 75, 3) := by decide +kernel
theorem dX8_isProblem_42 : decode cX8_isProblem 42 = .ok (.aload_n 0, 1) := by decide +kernel
theorem dX8_isProblem_43 : decode cX8_isProblem 43 = .ok (.getfield 7, 3) := by decide +kernel
theorem dX8_isProblem_46 : decode cX8_isProblem 46 = .ok (.bipush 11, 2) := by decide +kernel
theorem dX8_isProblem_48 : decode cX8_isProblem 48 = .ok (.iaload, 1) := by decide +kernel
theorem dX8_isProblem_49 : decode cX8_isProblem 49 = .ok (.if_icmp .lt 7, 3) := by decide +kernel
theorem dX8_isProblem_52 : decode cX8_isProblem 52 = .ok (.iconst 1, 1) := by decide +kernel
theorem dX8_isProblem_53 : decode cX8_isProblem 53 = .ok (.goto 4, 3) := by decide +kernel
theorem dX8_isProblem_56 : decode cX8_isProblem 56 = .ok (.iconst 0, 1) := by decide +kernel
theorem dX8_isProblem_57 : decode cX8_isProblem 57 = .ok (.ireturn, 1) := by decide +kernel
theorem dX8_problemsOf_0 : decode cX8_problemsOf 0 = .ok (.iload_n 1, 1) := by decide +kernel
theorem dX8_problemsOf_1 : decode cX8_problemsOf 1 = .ok (.iconst 2, 1) := by decide +kernel
theorem dX8_problemsOf_2 : decode cX8_problemsOf 2 = .ok (.if_icmp .ge 9, 3) := by decide +kernel
theorem dX8_problemsOf_5 : decode cX8_problemsOf 5 = .ok (.aload_n 0, 1) := by decide +kernel
theorem dX8_problemsOf_6 : decode cX8_problemsOf 6 = .ok (.iload_n 1, 1) := by decide +kernel
theorem dX8_problemsOf_7 : decode cX8_problemsOf 7 = .ok (.invokevirtual 190, 3) := by decide +kernel
theorem dX8_problemsOf_10 : decode cX8_problemsOf 10 = .ok (.ireturn, 1) := by decide +kernel
theorem dX8_problemsOf_11 : decode cX8_problemsOf 11 = .ok (.iconst 0, 1) := by decide +kernel
theorem dX8_problemsOf_12 : decode cX8_problemsOf 12 = .ok (.istore_n 2, 1) := by decide +kernel
theorem dX8_problemsOf_13 : decode cX8_problemsOf 13 = .ok (.iconst 0, 1) := by decide +kernel
theorem dX8_problemsOf_14 : decode cX8_problemsOf 14 = .ok (.istore_n 3, 1) := by decide +kernel
theorem dX8_problemsOf_15 : decode cX8_problemsOf 15 = .ok (.iload_n 3, 1) := by decide +kernel
theorem dX8_problemsOf_16 : decode cX8_problemsOf 16 = .ok (.bipush 12, 2) := by decide +kernel
theorem dX8_problemsOf_18 : decode cX8_problemsOf 18 = .ok (.if_icmp .ge 65, 3) := by decide +kernel
theorem dX8_problemsOf_21 : decode cX8_problemsOf 21 = .ok (.iconst 0, 1) := by decide +kernel
theorem dX8_problemsOf_22 : decode cX8_problemsOf 22 = .ok (.istore 4, 2) := by decide +kernel
theorem dX8_problemsOf_24 : decode cX8_problemsOf 24 = .ok (.iload 4, 2) := by decide +kernel
theorem dX8_problemsOf_26 : decode cX8_problemsOf 26 = .ok (.aload_n 0, 1) := by decide +kernel
theorem dX8_problemsOf_27 : decode cX8_problemsOf 27 = .ok (.getfield 7, 3) := by decide +kernel
theorem dX8_problemsOf_30 : decode cX8_problemsOf 30 = .ok (.iconst 1, 1) := by decide +kernel
theorem dX8_problemsOf_31 : decode cX8_problemsOf 31 = .ok (.iaload, 1) := by decide +kernel
theorem dX8_problemsOf_32 : decode cX8_problemsOf 32 = .ok (.if_icmp .ge 45, 3) := by decide +kernel
theorem dX8_problemsOf_35 : decode cX8_problemsOf 35 = .ok (.iload_n 2, 1) := by decide +kernel
theorem dX8_problemsOf_36 : decode cX8_problemsOf 36 = .ok (.aload_n 0, 1) := by decide +kernel
theorem dX8_problemsOf_37 : decode cX8_problemsOf 37 = .ok (.iload_n 3, 1) := by decide +kernel
theorem dX8_problemsOf_38 : decode cX8_problemsOf 38 = .ok (.iload 4, 2) := by decide +kernel
theorem dX8_problemsOf_40 : decode cX8_problemsOf 40 = .ok (.invokevirtual 172, 3) := by decide +kernel
theorem dX8_problemsOf_43 : decode cX8_problemsOf 43 = .ok (.iconst (-1), 1) := by decide +kernel
theorem dX8_problemsOf_44 : decode cX8_problemsOf 44 = .ok (.if_icmp .eq 24, 3) := by decide +kernel
theorem dX8_problemsOf_47 : decode cX8_problemsOf 47 = .ok (.aload_n 0, 1) := by decide +kernel
theorem dX8_problemsOf_48 : decode cX8_problemsOf 48 = .ok (.aload_n 0, 1) := by decide +kernel
theorem dX8_problemsOf_49 : decode cX8_problemsOf 49 = .ok (.iload_n 3, 1) := by decide +kernel
theorem dX8_problemsOf_50 : decode cX8_problemsOf 50 = .ok (.iload 4, 2) := by decide +kernel
theorem dX8_problemsOf_52 : decode cX8_problemsOf 52 = .ok (.invokevirtual 172, 3) := by decide +kernel
theorem dX8_problemsOf_55 : decode cX8_problemsOf 55 = .ok (.iload 4, 2) := by decide +kernel
theorem dX8_problemsOf_57 : decode cX8_problemsOf 57 = .ok (.iload_n 1, 1) := by decide +kernel
theorem dX8_problemsOf_58 : decode cX8_problemsOf 58 = .ok (.invokevirtual 194, 3) := by decide +kernel
theorem dX8_problemsOf_61 : decode cX8_problemsOf 61 = .ok (.ifCond .eq 7, 3) := by decide +kernel
theorem dX8_problemsOf_64 : decode cX8_problemsOf 64 = .ok (.iconst 1, 1) := by decide +kernel
theorem dX8_problemsOf_65 : decode cX8_problemsOf 65 = .ok (.goto 4, 3) := by decide +kernel
theorem dX8_problemsOf_68 : decode cX8_problemsOf 68 = .ok (.iconst 0, 1) := by decide +kernel
theorem dX8_problemsOf_69 : decode cX8_problemsOf 69 = .ok (.iadd, 1) := by decide +kernel
theorem dX8_problemsOf_70 : decode cX8_problemsOf 70 = .ok (.istore_n 2, 1) := by decide +kernel
theorem dX8_problemsOf_71 : decode cX8_problemsOf 71 = .ok (.iinc 4 1, 3) := by decide +kernel
theorem dX8_problemsOf_74 : decode cX8_problemsOf 74 = .ok (.goto (-50), 3) := by decide +kernel
theorem dX8_problemsOf_77 : decode cX8_problemsOf 77 = .ok (.iinc 3 1, 3) := by decide +kernel
theorem dX8_problemsOf_80 : decode cX8_problemsOf 80 = .ok (.goto (-65), 3) := by decide +kernel
theorem dX8_problemsOf_83 : decode cX8_problemsOf 83 = .ok (.iload_n 2, 1) := by decide +kernel
theorem dX8_problemsOf_84 : decode cX8_problemsOf 84 = .ok (.ireturn, 1) := by decide +kernel
theorem dX8_perform_0 : decode cX8_perform 0 = .ok (.aload_n 0, 1) := by decide +kernel
theorem dX8_perform_1 : decode cX8_perform 1 = .ok (.iconst 0, 1) := by decide +kernel
theorem dX8_perform_2 : decode cX8_perform 2 = .ok (.putfield 22, 3) := by decide +kernel
theorem dX8_perform_5 : decode cX8_perform 5 = .ok (.iconst 0, 1) := by decide +kernel
theorem dX8_perform_6 : decode cX8_perform 6 = .ok (.istore_n 1, 1) := by decide +kernel
theorem dX8_perform_7 : decode cX8_perform 7 = .ok (.iload_n 1, 1) := by decide +kernel
theorem dX8_perform_8 : decode cX8_perform 8 = .ok (.iconst 5, 1) := by decide +kernel
theorem dX8_perform_9 : decode cX8_perform 9 = .ok (.if_icmp .ge 21, 3) := by decide +kernel
theorem dX8_perform_12 : decode cX8_perform 12 = .ok (.aload_n 0, 1) := by decide +kernel
theorem dX8_perform_13 : decode cX8_perform 13 = .ok (.iload_n 1, 1) := by decide +kernel
theorem dX8_perform_14 : decode cX8_perform 14 = .ok (.invokevirtual 197, 3) := by decide +kernel
theorem dX8_perform_17 : decode cX8_perform 17 = .ok (.ifCond .le 7, 3) := by decide +kernel
theorem dX8_perform_20 : decode cX8_perform 20 = .ok (.sipush (-2002), 3) := by decide +kernel
theorem dX8_perform_23 : decode cX8_perform 23 = .ok (.ireturn, 1) := by decide +kernel
theorem dX8_perform_24 : decode cX8_perform 24 = .ok (.iinc 1 1, 3) := by decide +kernel
theorem dX8_perform_27 : decode cX8_perform 27 = .ok (.goto (-20), 3) := by decide +kernel
theorem dX8_perform_30 : decode cX8_perform 30 = .ok (.aload_n 0, 1) := by decide +kernel
theorem dX8_perform_31 : decode cX8_perform 31 = .ok (.getfield 7, 3) := by decide +kernel
theorem dX8_perform_34 : decode cX8_perform 34 = .ok (.iconst 3, 1) := by decide +kernel
theorem dX8_perform_35 : decode cX8_perform 35 = .ok (.iaload, 1) := by decide +kernel
theorem dX8_perform_36 : decode cX8_perform 36 = .ok (.sipush 300, 3) := by decide +kernel
theorem dX8_perform_39 : decode cX8_perform 39 = .ok (.if_icmp .ne 7, 3) := by decide +kernel
theorem dX8_perform_42 : decode cX8_perform 42 = .ok (.sipush (-2003), 3) := by decide +kernel
theorem dX8_perform_45 : decode cX8_perform 45 = .ok (.ireturn, 1) := by decide +kernel
theorem dX8_perform_46 : decode cX8_perform 46 = .ok (.aload_n 0, 1) := by decide +kernel
theorem dX8_perform_47 : decode cX8_perform 47 = .ok (.invokevirtual 29, 3) := by decide +kernel
theorem dX8_perform_50 : decode cX8_perform 50 = .ok (.iconst 0, 1) := by decide +kernel
theorem dX8_perform_51 : decode cX8_perform 51 = .ok (.istore_n 1, 1) := by decide +kernel
theorem dX8_perform_52 : decode cX8_perform 52 = .ok (.iload_n 1, 1) := by decide +kernel
theorem dX8_perform_53 : decode cX8_perform 53 = .ok (.aload_n 0, 1) := by decide +kernel
theorem dX8_perform_54 : decode cX8_perform 54 = .ok (.getfield 7, 3) := by decide +kernel
theorem dX8_perform_57 : decode cX8_perform 57 = .ok (.iconst 0, 1) := by decide +kernel
theorem dX8_perform_58 : decode cX8_perform 58 = .ok (.iaload, 1) := by decide +kernel
theorem dX8_perform_59 : decode cX8_perform 59 = .ok (.if_icmp .ge 42, 3) := by decide +kernel
theorem dX8_perform_62 : decode cX8_perform 62 = .ok (.aload_n 0, 1) := by decide +kernel
theorem dX8_perform_63 : decode cX8_perform 63 = .ok (.iload_n 1, 1) := by decide +kernel
theorem dX8_perform_64 : decode cX8_perform 64 = .ok (.bipush 6, 2) := by decide +kernel
theorem dX8_perform_66 : decode cX8_perform 66 = .ok (.invokevirtual 75, 3) := by decide +kernel
theorem dX8_perform_69 : decode cX8_perform 69 = .ok (.aload_n 0, 1) := by decide +kernel
theorem dX8_perform_70 : decode cX8_perform 70 = .ok (.iload_n 1, 1) := by decide +kernel
theorem dX8_perform_71 : decode cX8_perform 71 = .ok (.invokevirtual 200, 3) := by decide +kernel
theorem dX8_perform_74 : decode cX8_perform 74 = .ok (.iadd, 1) := by decide +kernel
theorem dX8_perform_75 : decode cX8_perform 75 = .ok (.istore_n 2, 1) := by decide +kernel
theorem dX8_perform_76 : decode cX8_perform 76 = .ok (.aload_n 0, 1) := by decide +kernel
theorem dX8_perform_77 : decode cX8_perform 77 = .ok (.iload_n 1, 1) := by decide +kernel
theorem dX8_perform_78 : decode cX8_perform 78 = .ok (.bipush 6, 2) := by decide +kernel
theorem dX8_perform_80 : decode cX8_perform 80 = .ok (.iload_n 2, 1) := by decide +kernel
theorem dX8_perform_81 : decode cX8_perform 81 = .ok (.bipush 9, 2) := by decide +kernel
theorem dX8_perform_83 : decode cX8_perform 83 = .ok (.if_icmp .le 8, 3) := by decide +kernel
theorem dX8_perform_86 : decode cX8_perform 86 = .ok (.bipush 9, 2) := by decide +kernel
theorem dX8_perform_88 : decode cX8_perform 88 = .ok (.goto 4, 3) := by decide +kernel
theorem dX8_perform_91 : decode cX8_perform 91 = .ok (.iload_n 2, 1) := by decide +kernel
theorem dX8_perform_92 : decode cX8_perform 92 = .ok (.invokevirtual 42, 3) := by decide +kernel
theorem dX8_perform_95 : decode cX8_perform 95 = .ok (.iinc 1 1, 3) := by decide +kernel
theorem dX8_perform_98 : decode cX8_perform 98 = .ok (.goto (-46), 3) := by decide +kernel
theorem dX8_perform_101 : decode cX8_perform 101 = .ok (.aload_n 0, 1) := by decide +kernel
theorem dX8_perform_102 : decode cX8_perform 102 = .ok (.getfield 7, 3) := by decide +kernel
theorem dX8_perform_105 : decode cX8_perform 105 = .ok (.bipush 7, 2) := by decide +kernel
theorem dX8_perform_107 : decode cX8_perform 107 = .ok (.dup2, 1) := by decide +kernel
theorem dX8_perform_108 : decode cX8_perform 108 = .ok (.iaload, 1) := by decide +kernel
theorem dX8_perform_109 : decode cX8_perform 109 = .ok (.iconst 1, 1) := by decide +kernel
theorem dX8_perform_110 : decode cX8_perform 110 = .ok (.iadd, 1) := by decide +kernel
theorem dX8_perform_111 : decode cX8_perform 111 = .ok (.iastore, 1) := by decide +kernel
theorem dX8_perform_112 : decode cX8_perform 112 = .ok (.aload_n 0, 1) := by decide +kernel
theorem dX8_perform_113 : decode cX8_perform 113 = .ok (.getfield 7, 3) := by decide +kernel
theorem dX8_perform_116 : decode cX8_perform 116 = .ok (.iconst 3, 1) := by decide +kernel
theorem dX8_perform_117 : decode cX8_perform 117 = .ok (.dup2, 1) := by decide +kernel
theorem dX8_perform_118 : decode cX8_perform 118 = .ok (.iaload, 1) := by decide +kernel
theorem dX8_perform_119 : decode cX8_perform 119 = .ok (.iconst 1, 1) := by decide +kernel
theorem dX8_perform_120 : decode cX8_perform 120 = .ok (.iadd, 1) := by decide +kernel
theorem dX8_perform_121 : decode cX8_perform 121 = .ok (.iastore, 1) := by decide +kernel
theorem dX8_perform_122 : decode cX8_perform 122 = .ok (.aload_n 0, 1) := by decide +kernel
theorem dX8_perform_123 : decode cX8_perform 123 = .ok (.getfield 7, 3) := by decide +kernel
theorem dX8_perform_126 : decode cX8_perform 126 = .ok (.iconst 3, 1) := by decide +kernel
theorem dX8_perform_127 : decode cX8_perform 127 = .ok (.iaload, 1) := by decide +kernel
theorem dX8_perform_128 : decode cX8_perform 128 = .ok (.ireturn, 1) := by decide +kernel
theorem dX8_pass_0 : decode cX8_pass 0 = .ok (.aload_n 0, 1) := by decide +kernel
theorem dX8_pass_1 : decode cX8_pass 1 = .ok (.iconst 0, 1) := by decide +kernel
theorem dX8_pass_2 : decode cX8_pass 2 = .ok (.putfield 22, 3) := by decide +kernel
theorem dX8_pass_5 : decode cX8_pass 5 = .ok (.iload_n 1, 1) := by decide +kernel
theorem dX8_pass_6 : decode cX8_pass 6 = .ok (.i2l, 1) := by decide +kernel
theorem dX8_pass_7 : decode cX8_pass 7 = .ok (.lconst 1, 1) := by decide +kernel
theorem dX8_pass_8 : decode cX8_pass 8 = .ok (.ldc2_w 203, 3) := by decide +kernel
theorem dX8_pass_11 : decode cX8_pass 11 = .ok (.invokestatic 32, 3) := by decide +kernel
theorem dX8_pass_14 : decode cX8_pass 14 = .ok (.ifCond .ne 7, 3) := by decide +kernel
theorem dX8_pass_17 : decode cX8_pass 17 = .ok (.sipush (-2001), 3) := by decide +kernel
theorem dX8_pass_20 : decode cX8_pass 20 = .ok (.ireturn, 1) := by decide +kernel
theorem dX8_pass_21 : decode cX8_pass 21 = .ok (.aload_n 0, 1) := by decide +kernel
theorem dX8_pass_22 : decode cX8_pass 22 = .ok (.getfield 7, 3) := by decide +kernel
theorem dX8_pass_25 : decode cX8_pass 25 = .ok (.iconst 3, 1) := by decide +kernel
theorem dX8_pass_26 : decode cX8_pass 26 = .ok (.iaload, 1) := by decide +kernel
theorem dX8_pass_27 : decode cX8_pass 27 = .ok (.iload_n 1, 1) := by decide +kernel
theorem dX8_pass_28 : decode cX8_pass 28 = .ok (.iadd, 1) := by decide +kernel
theorem dX8_pass_29 : decode cX8_pass 29 = .ok (.sipush 300, 3) := by decide +kernel
theorem dX8_pass_32 : decode cX8_pass 32 = .ok (.if_icmp .le 7, 3) := by decide +kernel
theorem dX8_pass_35 : decode cX8_pass 35 = .ok (.sipush (-2003), 3) := by decide +kernel
theorem dX8_pass_38 : decode cX8_pass 38 = .ok (.ireturn, 1) := by decide +kernel
theorem dX8_pass_39 : decode cX8_pass 39 = .ok (.aload_n 0, 1) := by decide +kernel
theorem dX8_pass_40 : decode cX8_pass 40 = .ok (.invokevirtual 29, 3) := by decide +kernel
theorem dX8_pass_43 : decode cX8_pass 43 = .ok (.aload_n 0, 1) := by decide +kernel
theorem dX8_pass_44 : decode cX8_pass 44 = .ok (.getfield 7, 3) := by decide +kernel
theorem dX8_pass_47 : decode cX8_pass 47 = .ok (.iconst 3, 1) := by decide +kernel
theorem dX8_pass_48 : decode cX8_pass 48 = .ok (.dup2, 1) := by decide +kernel
theorem dX8_pass_49 : decode cX8_pass 49 = .ok (.iaload, 1) := by decide +kernel
theorem dX8_pass_50 : decode cX8_pass 50 = .ok (.iload_n 1, 1) := by decide +kernel
theorem dX8_pass_51 : decode cX8_pass 51 = .ok (.iadd, 1) := by decide +kernel
theorem dX8_pass_52 : decode cX8_pass 52 = .ok (.iastore, 1) := by decide +kernel
theorem dX8_pass_53 : decode cX8_pass 53 = .ok (.aload_n 0, 1) := by decide +kernel
theorem dX8_pass_54 : decode cX8_pass 54 = .ok (.getfield 7, 3) := by decide +kernel
theorem dX8_pass_57 : decode cX8_pass 57 = .ok (.iconst 3, 1) := by decide +kernel
theorem dX8_pass_58 : decode cX8_pass 58 = .ok (.iaload, 1) := by decide +kernel
theorem dX8_pass_59 : decode cX8_pass 59 = .ok (.ireturn, 1) := by decide +kernel
theorem dX8_feeOf_0 : decode cX8_feeOf 0 = .ok (.iload_n 1, 1) := by decide +kernel
theorem dX8_feeOf_1 : decode cX8_feeOf 1 = .ok (.iload_n 0, 1) := by decide +kernel
theorem dX8_feeOf_2 : decode cX8_feeOf 2 = .ok (.iload_n 0, 1) := by decide +kernel
theorem dX8_feeOf_3 : decode cX8_feeOf 3 = .ok (.bipush 7, 2) := by decide +kernel
theorem dX8_feeOf_5 : decode cX8_feeOf 5 = .ok (.idiv, 1) := by decide +kernel
theorem dX8_feeOf_6 : decode cX8_feeOf 6 = .ok (.isub, 1) := by decide +kernel
theorem dX8_feeOf_7 : decode cX8_feeOf 7 = .ok (.imul, 1) := by decide +kernel
theorem dX8_feeOf_8 : decode cX8_feeOf 8 = .ok (.ireturn, 1) := by decide +kernel
theorem dX8_isAwayIn_0 : decode cX8_isAwayIn 0 = .ok (.iconst 0, 1) := by decide +kernel
theorem dX8_isAwayIn_1 : decode cX8_isAwayIn 1 = .ok (.istore 4, 2) := by decide +kernel
theorem dX8_isAwayIn_3 : decode cX8_isAwayIn 3 = .ok (.iconst 0, 1) := by decide +kernel
theorem dX8_isAwayIn_4 : decode cX8_isAwayIn 4 = .ok (.istore 5, 2) := by decide +kernel
theorem dX8_isAwayIn_6 : decode cX8_isAwayIn 6 = .ok (.iload 5, 2) := by decide +kernel
theorem dX8_isAwayIn_8 : decode cX8_isAwayIn 8 = .ok (.aload_n 0, 1) := by decide +kernel
theorem dX8_isAwayIn_9 : decode cX8_isAwayIn 9 = .ok (.getfield 7, 3) := by decide +kernel
theorem dX8_isAwayIn_12 : decode cX8_isAwayIn 12 = .ok (.iconst 2, 1) := by decide +kernel
theorem dX8_isAwayIn_13 : decode cX8_isAwayIn 13 = .ok (.iaload, 1) := by decide +kernel
theorem dX8_isAwayIn_14 : decode cX8_isAwayIn 14 = .ok (.if_icmp .ge 63, 3) := by decide +kernel
theorem dX8_isAwayIn_17 : decode cX8_isAwayIn 17 = .ok (.aload_n 0, 1) := by decide +kernel
theorem dX8_isAwayIn_18 : decode cX8_isAwayIn 18 = .ok (.iload 5, 2) := by decide +kernel
theorem dX8_isAwayIn_20 : decode cX8_isAwayIn 20 = .ok (.iconst 1, 1) := by decide +kernel
theorem dX8_isAwayIn_21 : decode cX8_isAwayIn 21 = .ok (.invokevirtual 81, 3) := by decide +kernel
theorem dX8_isAwayIn_24 : decode cX8_isAwayIn 24 = .ok (.istore 6, 2) := by decide +kernel
theorem dX8_isAwayIn_26 : decode cX8_isAwayIn 26 = .ok (.iload 4, 2) := by decide +kernel
theorem dX8_isAwayIn_28 : decode cX8_isAwayIn 28 = .ok (.ifCond .ne 36, 3) := by decide +kernel
theorem dX8_isAwayIn_31 : decode cX8_isAwayIn 31 = .ok (.aload_n 0, 1) := by decide +kernel
theorem dX8_isAwayIn_32 : decode cX8_isAwayIn 32 = .ok (.iload 5, 2) := by decide +kernel
theorem dX8_isAwayIn_34 : decode cX8_isAwayIn 34 = .ok (.iconst 0, 1) := by decide +kernel
theorem dX8_isAwayIn_35 : decode cX8_isAwayIn 35 = .ok (.invokevirtual 81, 3) := by decide +kernel
theorem dX8_isAwayIn_38 : decode cX8_isAwayIn 38 = .ok (.iload_n 1, 1) := by decide +kernel
theorem dX8_isAwayIn_39 : decode cX8_isAwayIn 39 = .ok (.if_icmp .ne 29, 3) := by decide +kernel
theorem dX8_isAwayIn_42 : decode cX8_isAwayIn 42 = .ok (.iload_n 2, 1) := by decide +kernel
theorem dX8_isAwayIn_43 : decode cX8_isAwayIn 43 = .ok (.iload 6, 2) := by decide +kernel
theorem dX8_isAwayIn_45 : decode cX8_isAwayIn 45 = .ok (.aload_n 0, 1) := by decide +kernel
theorem dX8_isAwayIn_46 : decode cX8_isAwayIn 46 = .ok (.iload 5, 2) := by decide +kernel
theorem dX8_isAwayIn_48 : decode cX8_isAwayIn 48 = .ok (.iconst 2, 1) := by decide +kernel
theorem dX8_isAwayIn_49 : decode cX8_isAwayIn 49 = .ok (.invokevirtual 81, 3) := by decide +kernel
theorem dX8_isAwayIn_52 : decode cX8_isAwayIn 52 = .ok (.iadd, 1) := by decide +kernel
theorem dX8_isAwayIn_53 : decode cX8_isAwayIn 53 = .ok (.if_icmp .ge 15, 3) := by decide +kernel
theorem dX8_isAwayIn_56 : decode cX8_isAwayIn 56 = .ok (.iload 6, 2) := by decide +kernel
theorem dX8_isAwayIn_58 : decode cX8_isAwayIn 58 = .ok (.iload_n 2, 1) := by decide +kernel
theorem dX8_isAwayIn_59 : decode cX8_isAwayIn 59 = .ok (.iload_n 3, 1) := by decide +kernel
theorem dX8_isAwayIn_60 : decode cX8_isAwayIn 60 = .ok (.iadd, 1) := by decide +kernel
theorem dX8_isAwayIn_61 : decode cX8_isAwayIn 61 = .ok (.if_icmp .ge 7, 3) := by decide +kernel
theorem dX8_isAwayIn_64 : decode cX8_isAwayIn 64 = .ok (.iconst 1, 1) := by decide +kernel
theorem dX8_isAwayIn_65 : decode cX8_isAwayIn 65 = .ok (.goto 4, 3) := by decide +kernel
theorem dX8_isAwayIn_68 : decode cX8_isAwayIn 68 = .ok (.iconst 0, 1) := by decide +kernel
theorem dX8_isAwayIn_69 : decode cX8_isAwayIn 69 = .ok (.istore 4, 2) := by decide +kernel
theorem dX8_isAwayIn_71 : decode cX8_isAwayIn 71 = .ok (.iinc 5 1, 3) := by decide +kernel
theorem dX8_isAwayIn_74 : decode cX8_isAwayIn 74 = .ok (.goto (-68), 3) := by decide +kernel
theorem dX8_isAwayIn_77 : decode cX8_isAwayIn 77 = .ok (.iload 4, 2) := by decide +kernel
theorem dX8_isAwayIn_79 : decode cX8_isAwayIn 79 = .ok (.ireturn, 1) := by decide +kernel
theorem dX8_hire_0 : decode cX8_hire 0 = .ok (.aload_n 0, 1) := by decide +kernel
theorem dX8_hire_1 : decode cX8_hire 1 = .ok (.iconst 0, 1) := by decide +kernel
theorem dX8_hire_2 : decode cX8_hire 2 = .ok (.putfield 22, 3) := by decide +kernel
theorem dX8_hire_5 : decode cX8_hire 5 = .ok (.aload_n 0, 1) := by decide +kernel
theorem dX8_hire_6 : decode cX8_hire 6 = .ok (.iload_n 1, 1) := by decide +kernel
theorem dX8_hire_7 : decode cX8_hire 7 = .ok (.invokevirtual 58, 3) := by decide +kernel
theorem dX8_hire_10 : decode cX8_hire 10 = .ok (.ifCond .eq 46, 3) := by decide +kernel
theorem dX8_hire_13 : decode cX8_hire 13 = .ok (.iload_n 2, 1) := by decide +kernel
theorem dX8_hire_14 : decode cX8_hire 14 = .ok (.i2l, 1) := by decide +kernel
theorem dX8_hire_15 : decode cX8_hire 15 = .ok (.aload_n 0, 1) := by decide +kernel
theorem dX8_hire_16 : decode cX8_hire 16 = .ok (.getfield 7, 3) := by decide +kernel
theorem dX8_hire_19 : decode cX8_hire 19 = .ok (.iconst 3, 1) := by decide +kernel
theorem dX8_hire_20 : decode cX8_hire 20 = .ok (.iaload, 1) := by decide +kernel
theorem dX8_hire_21 : decode cX8_hire 21 = .ok (.i2l, 1) := by decide +kernel
theorem dX8_hire_22 : decode cX8_hire 22 = .ok (.ldc2_w 205, 3) := by decide +kernel
theorem dX8_hire_25 : decode cX8_hire 25 = .ok (.invokestatic 32, 3) := by decide +kernel
theorem dX8_hire_28 : decode cX8_hire 28 = .ok (.ifCond .eq 28, 3) := by decide +kernel
theorem dX8_hire_31 : decode cX8_hire 31 = .ok (.iload_n 3, 1) := by decide +kernel
theorem dX8_hire_32 : decode cX8_hire 32 = .ok (.i2l, 1) := by decide +kernel
theorem dX8_hire_33 : decode cX8_hire 33 = .ok (.lconst 1, 1) := by decide +kernel
theorem dX8_hire_34 : decode cX8_hire 34 = .ok (.ldc2_w 203, 3) := by decide +kernel
theorem dX8_hire_37 : decode cX8_hire 37 = .ok (.invokestatic 32, 3) := by decide +kernel
theorem dX8_hire_40 : decode cX8_hire 40 = .ok (.ifCond .eq 16, 3) := by decide +kernel
theorem dX8_hire_43 : decode cX8_hire 43 = .ok (.iload 4, 2) := by decide +kernel
theorem dX8_hire_45 : decode cX8_hire 45 = .ok (.i2l, 1) := by decide +kernel
theorem dX8_hire_46 : decode cX8_hire 46 = .ok (.lconst 1, 1) := by decide +kernel
theorem dX8_hire_47 : decode cX8_hire 47 = .ok (.ldc2_w 207, 3) := by decide +kernel
theorem dX8_hire_50 : decode cX8_hire 50 = .ok (.invokestatic 32, 3) := by decide +kernel
theorem dX8_hire_53 : decode cX8_hire 53 = .ok (.ifCond .ne 7, 3) := by decide +kernel
theorem dX8_hire_56 : decode cX8_hire 56 = .ok (.sipush (-2001), 3) := by decide +kernel
theorem dX8_hire_59 : decode cX8_hire 59 = .ok (.ireturn, 1) := by decide +kernel
theorem dX8_hire_60 : decode cX8_hire 60 = .ok (.aload_n 0, 1) := by decide +kernel
theorem dX8_hire_61 : decode cX8_hire 61 = .ok (.iload_n 1, 1) := by decide +kernel
theorem dX8_hire_62 : decode cX8_hire 62 = .ok (.iload_n 2, 1) := by decide +kernel
theorem dX8_hire_63 : decode cX8_hire 63 = .ok (.iload_n 3, 1) := by decide +kernel
theorem dX8_hire_64 : decode cX8_hire 64 = .ok (.invokevirtual 209, 3) := by decide +kernel
theorem dX8_hire_67 : decode cX8_hire 67 = .ok (.ifCond .eq 7, 3) := by decide +kernel
theorem dX8_hire_70 : decode cX8_hire 70 = .ok (.sipush (-2002), 3) := by decide +kernel
theorem dX8_hire_73 : decode cX8_hire 73 = .ok (.ireturn, 1) := by decide +kernel
theorem dX8_hire_74 : decode cX8_hire 74 = .ok (.aload_n 0, 1) := by decide +kernel
theorem dX8_hire_75 : decode cX8_hire 75 = .ok (.getfield 7, 3) := by decide +kernel
theorem dX8_hire_78 : decode cX8_hire 78 = .ok (.iconst 2, 1) := by decide +kernel
theorem dX8_hire_79 : decode cX8_hire 79 = .ok (.iaload, 1) := by decide +kernel
theorem dX8_hire_80 : decode cX8_hire 80 = .ok (.bipush 24, 2) := by decide +kernel
theorem dX8_hire_82 : decode cX8_hire 82 = .ok (.if_icmp .ne 7, 3) := by decide +kernel
theorem dX8_hire_85 : decode cX8_hire 85 = .ok (.sipush (-2003), 3) := by decide +kernel
theorem dX8_hire_88 : decode cX8_hire 88 = .ok (.ireturn, 1) := by decide +kernel
theorem dX8_hire_89 : decode cX8_hire 89 = .ok (.aload_n 0, 1) := by decide +kernel
theorem dX8_hire_90 : decode cX8_hire 90 = .ok (.invokevirtual 29, 3) := by decide +kernel
theorem dX8_hire_93 : decode cX8_hire 93 = .ok (.sipush 452, 3) := by decide +kernel
theorem dX8_hire_96 : decode cX8_hire 96 = .ok (.iconst 5, 1) := by decide +kernel
theorem dX8_hire_97 : decode cX8_hire 97 = .ok (.aload_n 0, 1) := by decide +kernel
theorem dX8_hire_98 : decode cX8_hire 98 = .ok (.getfield 7, 3) := by decide +kernel
theorem dX8_hire_101 : decode cX8_hire 101 = .ok (.iconst 2, 1) := by decide +kernel
theorem dX8_hire_102 : decode cX8_hire 102 = .ok (.iaload, 1) := by decide +kernel
theorem dX8_hire_103 : decode cX8_hire 103 = .ok (.imul, 1) := by decide +kernel
theorem dX8_hire_104 : decode cX8_hire 104 = .ok (.iadd, 1) := by decide +kernel
theorem dX8_hire_105 : decode cX8_hire 105 = .ok (.istore 5, 2) := by decide +kernel
theorem dX8_hire_107 : decode cX8_hire 107 = .ok (.aload_n 0, 1) := by decide +kernel
theorem dX8_hire_108 : decode cX8_hire 108 = .ok (.getfield 7, 3) := by decide +kernel
theorem dX8_hire_111 : decode cX8_hire 111 = .ok (.iconst 2, 1) := by decide +kernel
theorem dX8_hire_112 : decode cX8_hire 112 = .ok (.dup2, 1) := by decide +kernel
theorem dX8_hire_113 : decode cX8_hire 113 = .ok (.iaload, 1) := by decide +kernel
theorem dX8_hire_114 : decode cX8_hire 114 = .ok (.iconst 1, 1) := by decide +kernel
theorem dX8_hire_115 : decode cX8_hire 115 = .ok (.iadd, 1) := by decide +kernel
theorem dX8_hire_116 : decode cX8_hire 116 = .ok (.iastore, 1) := by decide +kernel
theorem dX8_hire_117 : decode cX8_hire 117 = .ok (.aload_n 0, 1) := by decide +kernel
theorem dX8_hire_118 : decode cX8_hire 118 = .ok (.getfield 7, 3) := by decide +kernel
theorem dX8_hire_121 : decode cX8_hire 121 = .ok (.iload 5, 2) := by decide +kernel
theorem dX8_hire_123 : decode cX8_hire 123 = .ok (.iconst 0, 1) := by decide +kernel
theorem dX8_hire_124 : decode cX8_hire 124 = .ok (.iadd, 1) := by decide +kernel
theorem dX8_hire_125 : decode cX8_hire 125 = .ok (.iload_n 1, 1) := by decide +kernel
theorem dX8_hire_126 : decode cX8_hire 126 = .ok (.iastore, 1) := by decide +kernel
theorem dX8_hire_127 : decode cX8_hire 127 = .ok (.aload_n 0, 1) := by decide +kernel
theorem dX8_hire_128 : decode cX8_hire 128 = .ok (.getfield 7, 3) := by decide +kernel
theorem dX8_hire_131 : decode cX8_hire 131 = .ok (.iload 5, 2) := by decide +kernel
theorem dX8_hire_133 : decode cX8_hire 133 = .ok (.iconst 1, 1) := by decide +kernel
theorem dX8_hire_134 : decode cX8_hire 134 = .ok (.iadd, 1) := by decide +kernel
theorem dX8_hire_135 : decode cX8_hire 135 = .ok (.iload_n 2, 1) := by decide +kernel
theorem dX8_hire_136 : decode cX8_hire 136 = .ok (.iastore, 1) := by decide +kernel
theorem dX8_hire_137 : decode cX8_hire 137 = .ok (.aload_n 0, 1) := by decide +kernel
theorem dX8_hire_138 : decode cX8_hire 138 = .ok (.getfield 7, 3) := by decide +kernel
theorem dX8_hire_141 : decode cX8_hire 141 = .ok (.iload 5, 2) := by decide +kernel
theorem dX8_hire_143 : decode cX8_hire 143 = .ok (.iconst 2, 1) := by decide +kernel
theorem dX8_hire_144 : decode cX8_hire 144 = .ok (.iadd, 1) := by decide +kernel
theorem dX8_hire_145 : decode cX8_hire 145 = .ok (.iload_n 3, 1) := by decide +kernel
theorem dX8_hire_146 : decode cX8_hire 146 = .ok (.iastore, 1) := by decide +kernel
theorem dX8_hire_147 : decode cX8_hire 147 = .ok (.aload_n 0, 1) := by decide +kernel
theorem dX8_hire_148 : decode cX8_hire 148 = .ok (.getfield 7, 3) := by decide +kernel
theorem dX8_hire_151 : decode cX8_hire 151 = .ok (.iload 5, 2) := by decide +kernel
theorem dX8_hire_153 : decode cX8_hire 153 = .ok (.iconst 3, 1) := by decide +kernel
theorem dX8_hire_154 : decode cX8_hire 154 = .ok (.iadd, 1) := by decide +kernel
theorem dX8_hire_155 : decode cX8_hire 155 = .ok (.iload_n 3, 1) := by decide +kernel
theorem dX8_hire_156 : decode cX8_hire 156 = .ok (.iload 4, 2) := by decide +kernel
theorem dX8_hire_158 : decode cX8_hire 158 = .ok (.invokestatic 212, 3) := by decide +kernel
theorem dX8_hire_161 : decode cX8_hire 161 = .ok (.iastore, 1) := by decide +kernel
theorem dX8_hire_162 : decode cX8_hire 162 = .ok (.aload_n 0, 1) := by decide +kernel
theorem dX8_hire_163 : decode cX8_hire 163 = .ok (.getfield 7, 3) := by decide +kernel
theorem dX8_hire_166 : decode cX8_hire 166 = .ok (.iload 5, 2) := by decide +kernel
theorem dX8_hire_168 : decode cX8_hire 168 = .ok (.iconst 4, 1) := by decide +kernel
theorem dX8_hire_169 : decode cX8_hire 169 = .ok (.iadd, 1) := by decide +kernel
theorem dX8_hire_170 : decode cX8_hire 170 = .ok (.iload 4, 2) := by decide +kernel
theorem dX8_hire_172 : decode cX8_hire 172 = .ok (.iastore, 1) := by decide +kernel
theorem dX8_hire_173 : decode cX8_hire 173 = .ok (.aload_n 0, 1) := by decide +kernel
theorem dX8_hire_174 : decode cX8_hire 174 = .ok (.getfield 7, 3) := by decide +kernel
theorem dX8_hire_177 : decode cX8_hire 177 = .ok (.iconst 5, 1) := by decide +kernel
theorem dX8_hire_178 : decode cX8_hire 178 = .ok (.dup2, 1) := by decide +kernel
theorem dX8_hire_179 : decode cX8_hire 179 = .ok (.iaload, 1) := by decide +kernel
theorem dX8_hire_180 : decode cX8_hire 180 = .ok (.aload_n 0, 1) := by decide +kernel
theorem dX8_hire_181 : decode cX8_hire 181 = .ok (.getfield 7, 3) := by decide +kernel
theorem dX8_hire_184 : decode cX8_hire 184 = .ok (.iload 5, 2) := by decide +kernel
theorem dX8_hire_186 : decode cX8_hire 186 = .ok (.iconst 3, 1) := by decide +kernel
theorem dX8_hire_187 : decode cX8_hire 187 = .ok (.iadd, 1) := by decide +kernel
theorem dX8_hire_188 : decode cX8_hire 188 = .ok (.iaload, 1) := by decide +kernel
theorem dX8_hire_189 : decode cX8_hire 189 = .ok (.iadd, 1) := by decide +kernel
theorem dX8_hire_190 : decode cX8_hire 190 = .ok (.iastore, 1) := by decide +kernel
theorem dX8_hire_191 : decode cX8_hire 191 = .ok (.aload_n 0, 1) := by decide +kernel
theorem dX8_hire_192 : decode cX8_hire 192 = .ok (.getfield 7, 3) := by decide +kernel
theorem dX8_hire_195 : decode cX8_hire 195 = .ok (.iload 5, 2) := by decide +kernel
theorem dX8_hire_197 : decode cX8_hire 197 = .ok (.iconst 3, 1) := by decide +kernel
theorem dX8_hire_198 : decode cX8_hire 198 = .ok (.iadd, 1) := by decide +kernel
theorem dX8_hire_199 : decode cX8_hire 199 = .ok (.iaload, 1) := by decide +kernel
theorem dX8_hire_200 : decode cX8_hire 200 = .ok (.ireturn, 1) := by decide +kernel
theorem dX8_endHire_0 : decode cX8_endHire 0 = .ok (.aload_n 0, 1) := by decide +kernel
theorem dX8_endHire_1 : decode cX8_endHire 1 = .ok (.iconst 0, 1) := by decide +kernel
theorem dX8_endHire_2 : decode cX8_endHire 2 = .ok (.putfield 22, 3) := by decide +kernel
theorem dX8_endHire_5 : decode cX8_endHire 5 = .ok (.iload_n 1, 1) := by decide +kernel
theorem dX8_endHire_6 : decode cX8_endHire 6 = .ok (.i2l, 1) := by decide +kernel
theorem dX8_endHire_7 : decode cX8_endHire 7 = .ok (.lconst 0, 1) := by decide +kernel
theorem dX8_endHire_8 : decode cX8_endHire 8 = .ok (.aload_n 0, 1) := by decide +kernel
theorem dX8_endHire_9 : decode cX8_endHire 9 = .ok (.getfield 7, 3) := by decide +kernel
theorem dX8_endHire_12 : decode cX8_endHire 12 = .ok (.iconst 2, 1) := by decide +kernel
theorem dX8_endHire_13 : decode cX8_endHire 13 = .ok (.iaload, 1) := by decide +kernel
theorem dX8_endHire_14 : decode cX8_endHire 14 = .ok (.iconst 1, 1) := by decide +kernel
theorem dX8_endHire_15 : decode cX8_endHire 15 = .ok (.isub, 1) := by decide +kernel
theorem dX8_endHire_16 : decode cX8_endHire 16 = .ok (.i2l, 1) := by decide +kernel
theorem dX8_endHire_17 : decode cX8_endHire 17 = .ok (.invokestatic 32, 3) := by decide +kernel
theorem dX8_endHire_20 : decode cX8_endHire 20 = .ok (.ifCond .ne 7, 3) := by decide +kernel
theorem dX8_endHire_23 : decode cX8_endHire 23 = .ok (.sipush (-2001), 3) := by decide +kernel
theorem dX8_endHire_26 : decode cX8_endHire 26 = .ok (.ireturn, 1) := by decide +kernel
theorem dX8_endHire_27 : decode cX8_endHire 27 = .ok (.aload_n 0, 1) := by decide +kernel
theorem dX8_endHire_28 : decode cX8_endHire 28 = .ok (.getfield 7, 3) := by decide +kernel
theorem dX8_endHire_31 : decode cX8_endHire 31 = .ok (.iconst 3, 1) := by decide +kernel
theorem dX8_endHire_32 : decode cX8_endHire 32 = .ok (.iaload, 1) := by decide +kernel
theorem dX8_endHire_33 : decode cX8_endHire 33 = .ok (.aload_n 0, 1) := by decide +kernel
theorem dX8_endHire_34 : decode cX8_endHire 34 = .ok (.iload_n 1, 1) := by decide +kernel
theorem dX8_endHire_35 : decode cX8_endHire 35 = .ok (.iconst 1, 1) := by decide +kernel
theorem dX8_endHire_36 : decode cX8_endHire 36 = .ok (.invokevirtual 81, 3) := by decide +kernel
theorem dX8_endHire_39 : decode cX8_endHire 39 = .ok (.isub, 1) := by decide +kernel
theorem dX8_endHire_40 : decode cX8_endHire 40 = .ok (.iconst 1, 1) := by decide +kernel
theorem dX8_endHire_41 : decode cX8_endHire 41 = .ok (.iadd, 1) := by decide +kernel
theorem dX8_endHire_42 : decode cX8_endHire 42 = .ok (.istore_n 2, 1) := by decide +kernel
theorem dX8_endHire_43 : decode cX8_endHire 43 = .ok (.iload_n 2, 1) := by decide +kernel
theorem dX8_endHire_44 : decode cX8_endHire 44 = .ok (.i2l, 1) := by decide +kernel
theorem dX8_endHire_45 : decode cX8_endHire 45 = .ok (.lconst 1, 1) := by decide +kernel
theorem dX8_endHire_46 : decode cX8_endHire 46 = .ok (.aload_n 0, 1) := by decide +kernel
theorem dX8_endHire_47 : decode cX8_endHire 47 = .ok (.iload_n 1, 1) := by decide +kernel
theorem dX8_endHire_48 : decode cX8_endHire 48 = .ok (.iconst 2, 1) := by decide +kernel
theorem dX8_endHire_49 : decode cX8_endHire 49 = .ok (.invokevirtual 81, 3) := by decide +kernel
theorem dX8_endHire_52 : decode cX8_endHire 52 = .ok (.iconst 1, 1) := by decide +kernel
theorem dX8_endHire_53 : decode cX8_endHire 53 = .ok (.isub, 1) := by decide +kernel
theorem dX8_endHire_54 : decode cX8_endHire 54 = .ok (.i2l, 1) := by decide +kernel
theorem dX8_endHire_55 : decode cX8_endHire 55 = .ok (.invokestatic 32, 3) := by decide +kernel
theorem dX8_endHire_58 : decode cX8_endHire 58 = .ok (.ifCond .ne 7, 3) := by decide +kernel
theorem dX8_endHire_61 : decode cX8_endHire 61 = .ok (.sipush (-2002), 3) := by decide +kernel
theorem dX8_endHire_64 : decode cX8_endHire 64 = .ok (.ireturn, 1) := by decide +kernel
theorem dX8_endHire_65 : decode cX8_endHire 65 = .ok (.aload_n 0, 1) := by decide +kernel
theorem dX8_endHire_66 : decode cX8_endHire 66 = .ok (.invokevirtual 29, 3) := by decide +kernel
theorem dX8_endHire_69 : decode cX8_endHire 69 = .ok (.sipush 452, 3) := by decide +kernel
theorem dX8_endHire_72 : decode cX8_endHire 72 = .ok (.iconst 5, 1) := by decide +kernel
theorem dX8_endHire_73 : decode cX8_endHire 73 = .ok (.iload_n 1, 1) := by decide +kernel
theorem dX8_endHire_74 : decode cX8_endHire 74 = .ok (.imul, 1) := by decide +kernel
theorem dX8_endHire_75 : decode cX8_endHire 75 = .ok (.iadd, 1) := by decide +kernel
theorem dX8_endHire_76 : decode cX8_endHire 76 = .ok (.istore_n 3, 1) := by decide +kernel
theorem dX8_endHire_77 : decode cX8_endHire 77 = .ok (.aload_n 0, 1) := by decide +kernel
theorem dX8_endHire_78 : decode cX8_endHire 78 = .ok (.getfield 7, 3) := by decide +kernel
theorem dX8_endHire_81 : decode cX8_endHire 81 = .ok (.iload_n 3, 1) := by decide +kernel
theorem dX8_endHire_82 : decode cX8_endHire 82 = .ok (.iconst 3, 1) := by decide +kernel
theorem dX8_endHire_83 : decode cX8_endHire 83 = .ok (.iadd, 1) := by decide +kernel
theorem dX8_endHire_84 : decode cX8_endHire 84 = .ok (.iaload, 1) := by decide +kernel
theorem dX8_endHire_85 : decode cX8_endHire 85 = .ok (.iload_n 2, 1) := by decide +kernel
theorem dX8_endHire_86 : decode cX8_endHire 86 = .ok (.aload_n 0, 1) := by decide +kernel
theorem dX8_endHire_87 : decode cX8_endHire 87 = .ok (.getfield 7, 3) := by decide +kernel
theorem dX8_endHire_90 : decode cX8_endHire 90 = .ok (.iload_n 3, 1) := by decide +kernel
theorem dX8_endHire_91 : decode cX8_endHire 91 = .ok (.iconst 4, 1) := by decide +kernel
theorem dX8_endHire_92 : decode cX8_endHire 92 = .ok (.iadd, 1) := by decide +kernel
theorem dX8_endHire_93 : decode cX8_endHire 93 = .ok (.iaload, 1) := by decide +kernel
theorem dX8_endHire_94 : decode cX8_endHire 94 = .ok (.invokestatic 212, 3) := by decide +kernel
theorem dX8_endHire_97 : decode cX8_endHire 97 = .ok (.isub, 1) := by decide +kernel
theorem dX8_endHire_98 : decode cX8_endHire 98 = .ok (.iconst 2, 1) := by decide +kernel
theorem dX8_endHire_99 : decode cX8_endHire 99 = .ok (.idiv, 1) := by decide +kernel
theorem dX8_endHire_100 : decode cX8_endHire 100 = .ok (.istore 4, 2) := by decide +kernel
theorem dX8_endHire_102 : decode cX8_endHire 102 = .ok (.aload_n 0, 1) := by decide +kernel
theorem dX8_endHire_103 : decode cX8_endHire 103 = .ok (.getfield 7, 3) := by decide +kernel
theorem dX8_endHire_106 : decode cX8_endHire 106 = .ok (.iload_n 3, 1) := by decide +kernel
theorem dX8_endHire_107 : decode cX8_endHire 107 = .ok (.iconst 2, 1) := by decide +kernel
theorem dX8_endHire_108 : decode cX8_endHire 108 = .ok (.iadd, 1) := by decide +kernel
theorem dX8_endHire_109 : decode cX8_endHire 109 = .ok (.iload_n 2, 1) := by decide +kernel
theorem dX8_endHire_110 : decode cX8_endHire 110 = .ok (.iastore, 1) := by decide +kernel
theorem dX8_endHire_111 : decode cX8_endHire 111 = .ok (.aload_n 0, 1) := by decide +kernel
theorem dX8_endHire_112 : decode cX8_endHire 112 = .ok (.getfield 7, 3) := by decide +kernel
theorem dX8_endHire_115 : decode cX8_endHire 115 = .ok (.iload_n 3, 1) := by decide +kernel
theorem dX8_endHire_116 : decode cX8_endHire 116 = .ok (.iconst 3, 1) := by decide +kernel
theorem dX8_endHire_117 : decode cX8_endHire 117 = .ok (.iadd, 1) := by decide +kernel
theorem dX8_endHire_118 : decode cX8_endHire 118 = .ok (.dup2, 1) := by decide +kernel
theorem dX8_endHire_119 : decode cX8_endHire 119 = .ok (.iaload, 1) := by decide +kernel
theorem dX8_endHire_120 : decode cX8_endHire 120 = .ok (.iload 4, 2) := by decide +kernel
theorem dX8_endHire_122 : decode cX8_endHire 122 = .ok (.isub, 1) := by decide +kernel
theorem dX8_endHire_123 : decode cX8_endHire 123 = .ok (.iastore, 1) := by decide +kernel
theorem dX8_endHire_124 : decode cX8_endHire 124 = .ok (.aload_n 0, 1) := by decide +kernel
theorem dX8_endHire_125 : decode cX8_endHire 125 = .ok (.getfield 7, 3) := by decide +kernel
theorem dX8_endHire_128 : decode cX8_endHire 128 = .ok (.iconst 5, 1) := by decide +kernel
theorem dX8_endHire_129 : decode cX8_endHire 129 = .ok (.dup2, 1) := by decide +kernel
theorem dX8_endHire_130 : decode cX8_endHire 130 = .ok (.iaload, 1) := by decide +kernel
theorem dX8_endHire_131 : decode cX8_endHire 131 = .ok (.iload 4, 2) := by decide +kernel
theorem dX8_endHire_133 : decode cX8_endHire 133 = .ok (.isub, 1) := by decide +kernel
theorem dX8_endHire_134 : decode cX8_endHire 134 = .ok (.iastore, 1) := by decide +kernel
theorem dX8_endHire_135 : decode cX8_endHire 135 = .ok (.iload 4, 2) := by decide +kernel
theorem dX8_endHire_137 : decode cX8_endHire 137 = .ok (.ireturn, 1) := by decide +kernel
theorem dX8_canWash_0 : decode cX8_canWash 0 = .ok (.iload_n 1, 1) := by decide +kernel
theorem dX8_canWash_1 : decode cX8_canWash 1 = .ok (.ifCond .ne 16, 3) := by decide +kernel
theorem dX8_canWash_4 : decode cX8_canWash 4 = .ok (.iload_n 0, 1) := by decide +kernel
theorem dX8_canWash_5 : decode cX8_canWash 5 = .ok (.iconst 3, 1) := by decide +kernel
theorem dX8_canWash_6 : decode cX8_canWash 6 = .ok (.if_icmp .ge 7, 3) := by decide +kernel
theorem dX8_canWash_9 : decode cX8_canWash 9 = .ok (.iconst 1, 1) := by decide +kernel
theorem dX8_canWash_10 : decode cX8_canWash 10 = .ok (.goto 17, 3) := by decide +kernel
theorem dX8_canWash_13 : decode cX8_canWash 13 = .ok (.iconst 0, 1) := by decide +kernel
theorem dX8_canWash_14 : decode cX8_canWash 14 = .ok (.goto 13, 3) := by decide +kernel
theorem dX8_canWash_17 : decode cX8_canWash 17 = .ok (.iload_n 0, 1) := by decide +kernel
theorem dX8_canWash_18 : decode cX8_canWash 18 = .ok (.iload_n 1, 1) := by decide +kernel
theorem dX8_canWash_19 : decode cX8_canWash 19 = .ok (.if_icmp .lt 7, 3) := by decide +kernel
theorem dX8_canWash_22 : decode cX8_canWash 22 = .ok (.iconst 1, 1) := by decide +kernel
theorem dX8_canWash_23 : decode cX8_canWash 23 = .ok (.goto 4, 3) := by decide +kernel
theorem dX8_canWash_26 : decode cX8_canWash 26 = .ok (.iconst 0, 1) := by decide +kernel
theorem dX8_canWash_27 : decode cX8_canWash 27 = .ok (.ireturn, 1) := by decide +kernel
theorem dX8_has_0 : decode cX8_has 0 = .ok (.iload_n 0, 1) := by decide +kernel
theorem dX8_has_1 : decode cX8_has 1 = .ok (.iload_n 1, 1) := by decide +kernel
theorem dX8_has_2 : decode cX8_has 2 = .ok (.ishr, 1) := by decide +kernel
theorem dX8_has_3 : decode cX8_has 3 = .ok (.iconst 1, 1) := by decide +kernel
theorem dX8_has_4 : decode cX8_has 4 = .ok (.iand, 1) := by decide +kernel
theorem dX8_has_5 : decode cX8_has 5 = .ok (.iconst 1, 1) := by decide +kernel
theorem dX8_has_6 : decode cX8_has 6 = .ok (.if_icmp .ne 7, 3) := by decide +kernel
theorem dX8_has_9 : decode cX8_has 9 = .ok (.iconst 1, 1) := by decide +kernel
theorem dX8_has_10 : decode cX8_has 10 = .ok (.goto 4, 3) := by decide +kernel
theorem dX8_has_13 : decode cX8_has 13 = .ok (.iconst 0, 1) := by decide +kernel
theorem dX8_has_14 : decode cX8_has 14 = .ok (.ireturn, 1) := by decide +kernel
theorem dX8_isLoadAllowed_0 : decode cX8_isLoadAllowed 0 = .ok (.iconst 0, 1) := by decide +kernel
theorem dX8_isLoadAllowed_1 : decode cX8_isLoadAllowed 1 = .ok (.istore_n 3, 1) := by decide +kernel
theorem dX8_isLoadAllowed_2 : decode cX8_isLoadAllowed 2 = .ok (.iconst 0, 1) := by decide +kernel
theorem dX8_isLoadAllowed_3 : decode cX8_isLoadAllowed 3 = .ok (.istore 4, 2) := by decide +kernel
theorem dX8_isLoadAllowed_5 : decode cX8_isLoadAllowed 5 = .ok (.iconst 1, 1) := by decide +kernel
theorem dX8_isLoadAllowed_6 : decode cX8_isLoadAllowed 6 = .ok (.istore 5, 2) := by decide +kernel
theorem dX8_isLoadAllowed_8 : decode cX8_isLoadAllowed 8 = .ok (.iconst 0, 1) := by decide +kernel
theorem dX8_isLoadAllowed_9 : decode cX8_isLoadAllowed 9 = .ok (.istore 6, 2) := by decide +kernel
theorem dX8_isLoadAllowed_11 : decode cX8_isLoadAllowed 11 = .ok (.iload 6, 2) := by decide +kernel
theorem dX8_isLoadAllowed_13 : decode cX8_isLoadAllowed 13 = .ok (.aload_n 0, 1) := by decide +kernel
theorem dX8_isLoadAllowed_14 : decode cX8_isLoadAllowed 14 = .ok (.getfield 7, 3) := by decide +kernel
theorem dX8_isLoadAllowed_17 : decode cX8_isLoadAllowed 17 = .ok (.iconst 0, 1) := by decide +kernel
theorem dX8_isLoadAllowed_18 : decode cX8_isLoadAllowed 18 = .ok (.iaload, 1) := by decide +kernel
theorem dX8_isLoadAllowed_19 : decode cX8_isLoadAllowed 19 = .ok (.if_icmp .ge 70, 3) := by decide +kernel
theorem dX8_isLoadAllowed_22 : decode cX8_isLoadAllowed 22 = .ok (.iload_n 2, 1) := by decide +kernel
theorem dX8_isLoadAllowed_23 : decode cX8_isLoadAllowed 23 = .ok (.iload 6, 2) := by decide +kernel
theorem dX8_isLoadAllowed_25 : decode cX8_isLoadAllowed 25 = .ok (.invokestatic 215, 3) := by decide +kernel
theorem dX8_isLoadAllowed_28 : decode cX8_isLoadAllowed 28 = .ok (.ifCond .eq 55, 3) := by decide +kernel
theorem dX8_isLoadAllowed_31 : decode cX8_isLoadAllowed 31 = .ok (.iinc 3 1, 3) := by decide +kernel
theorem dX8_isLoadAllowed_34 : decode cX8_isLoadAllowed 34 = .ok (.iload 4, 2) := by decide +kernel
theorem dX8_isLoadAllowed_36 : decode cX8_isLoadAllowed 36 = .ok (.iconst 1, 1) := by decide +kernel
theorem dX8_isLoadAllowed_37 : decode cX8_isLoadAllowed 37 = .ok (.aload_n 0, 1) := by decide +kernel
theorem dX8_isLoadAllowed_38 : decode cX8_isLoadAllowed 38 = .ok (.iload 6, 2) := by decide +kernel
theorem dX8_isLoadAllowed_40 : decode cX8_isLoadAllowed 40 = .ok (.iconst 5, 1) := by decide +kernel
theorem dX8_isLoadAllowed_41 : decode cX8_isLoadAllowed 41 = .ok (.invokevirtual 75, 3) := by decide +kernel
theorem dX8_isLoadAllowed_44 : decode cX8_isLoadAllowed 44 = .ok (.ishl, 1) := by decide +kernel
theorem dX8_isLoadAllowed_45 : decode cX8_isLoadAllowed 45 = .ok (.ior, 1) := by decide +kernel
theorem dX8_isLoadAllowed_46 : decode cX8_isLoadAllowed 46 = .ok (.istore 4, 2) := by decide +kernel
theorem dX8_isLoadAllowed_48 : decode cX8_isLoadAllowed 48 = .ok (.iload 5, 2) := by decide +kernel
theorem dX8_isLoadAllowed_50 : decode cX8_isLoadAllowed 50 = .ok (.ifCond .eq 30, 3) := by decide +kernel
theorem dX8_isLoadAllowed_53 : decode cX8_isLoadAllowed 53 = .ok (.aload_n 0, 1) := by decide +kernel
theorem dX8_isLoadAllowed_54 : decode cX8_isLoadAllowed 54 = .ok (.iload 6, 2) := by decide +kernel
theorem dX8_isLoadAllowed_56 : decode cX8_isLoadAllowed 56 = .ok (.invokevirtual 92, 3) := by decide +kernel
theorem dX8_isLoadAllowed_59 : decode cX8_isLoadAllowed 59 = .ok (.ifCond .ne 21, 3) := by decide +kernel
theorem dX8_isLoadAllowed_62 : decode cX8_isLoadAllowed 62 = .ok (.iload_n 1, 1) := by decide +kernel
theorem dX8_isLoadAllowed_63 : decode cX8_isLoadAllowed 63 = .ok (.aload_n 0, 1) := by decide +kernel
theorem dX8_isLoadAllowed_64 : decode cX8_isLoadAllowed 64 = .ok (.iload 6, 2) := by decide +kernel
theorem dX8_isLoadAllowed_66 : decode cX8_isLoadAllowed 66 = .ok (.iconst 4, 1) := by decide +kernel
theorem dX8_isLoadAllowed_67 : decode cX8_isLoadAllowed 67 = .ok (.invokevirtual 75, 3) := by decide +kernel
theorem dX8_isLoadAllowed_70 : decode cX8_isLoadAllowed 70 = .ok (.invokestatic 218, 3) := by decide +kernel
theorem dX8_isLoadAllowed_73 : decode cX8_isLoadAllowed 73 = .ok (.ifCond .eq 7, 3) := by decide +kernel
theorem dX8_isLoadAllowed_76 : decode cX8_isLoadAllowed 76 = .ok (.iconst 1, 1) := by decide +kernel
theorem dX8_isLoadAllowed_77 : decode cX8_isLoadAllowed 77 = .ok (.goto 4, 3) := by decide +kernel
theorem dX8_isLoadAllowed_80 : decode cX8_isLoadAllowed 80 = .ok (.iconst 0, 1) := by decide +kernel
theorem dX8_isLoadAllowed_81 : decode cX8_isLoadAllowed 81 = .ok (.istore 5, 2) := by decide +kernel
theorem dX8_isLoadAllowed_83 : decode cX8_isLoadAllowed 83 = .ok (.iinc 6 1, 3) := by decide +kernel
theorem dX8_isLoadAllowed_86 : decode cX8_isLoadAllowed 86 = .ok (.goto (-75), 3) := by decide +kernel
theorem dX8_isLoadAllowed_89 : decode cX8_isLoadAllowed 89 = .ok (.iload 5, 2) := by decide +kernel
theorem dX8_isLoadAllowed_91 : decode cX8_isLoadAllowed 91 = .ok (.ifCond .eq 23, 3) := by decide +kernel
theorem dX8_isLoadAllowed_94 : decode cX8_isLoadAllowed 94 = .ok (.iload_n 3, 1) := by decide +kernel
theorem dX8_isLoadAllowed_95 : decode cX8_isLoadAllowed 95 = .ok (.iconst 5, 1) := by decide +kernel
theorem dX8_isLoadAllowed_96 : decode cX8_isLoadAllowed 96 = .ok (.if_icmp .gt 18, 3) := by decide +kernel
theorem dX8_isLoadAllowed_99 : decode cX8_isLoadAllowed 99 = .ok (.iload_n 1, 1) := by decide +kernel
theorem dX8_isLoadAllowed_100 : decode cX8_isLoadAllowed 100 = .ok (.iconst 3, 1) := by decide +kernel
theorem dX8_isLoadAllowed_101 : decode cX8_isLoadAllowed 101 = .ok (.if_icmp .eq 9, 3) := by decide +kernel
theorem dX8_isLoadAllowed_104 : decode cX8_isLoadAllowed 104 = .ok (.iload 4, 2) := by decide +kernel
theorem dX8_isLoadAllowed_106 : decode cX8_isLoadAllowed 106 = .ok (.iconst 3, 1) := by decide +kernel
theorem dX8_isLoadAllowed_107 : decode cX8_isLoadAllowed 107 = .ok (.if_icmp .eq 7, 3) := by decide +kernel
theorem dX8_isLoadAllowed_110 : decode cX8_isLoadAllowed 110 = .ok (.iconst 1, 1) := by decide +kernel
theorem dX8_isLoadAllowed_111 : decode cX8_isLoadAllowed 111 = .ok (.goto 4, 3) := by decide +kernel
theorem dX8_isLoadAllowed_114 : decode cX8_isLoadAllowed 114 = .ok (.iconst 0, 1) := by decide +kernel
theorem dX8_isLoadAllowed_115 : decode cX8_isLoadAllowed 115 = .ok (.ireturn, 1) := by decide +kernel
theorem dX8_washesOut_0 : decode cX8_washesOut 0 = .ok (.iload_n 0, 1) := by decide +kernel
theorem dX8_washesOut_1 : decode cX8_washesOut 1 = .ok (.ifCond .ne 7, 3) := by decide +kernel
theorem dX8_washesOut_4 : decode cX8_washesOut 4 = .ok (.iconst 5, 1) := by decide +kernel
theorem dX8_washesOut_5 : decode cX8_washesOut 5 = .ok (.goto 22, 3) := by decide +kernel
theorem dX8_washesOut_8 : decode cX8_washesOut 8 = .ok (.iload_n 0, 1) := by decide +kernel
theorem dX8_washesOut_9 : decode cX8_washesOut 9 = .ok (.iconst 1, 1) := by decide +kernel
theorem dX8_washesOut_10 : decode cX8_washesOut 10 = .ok (.if_icmp .ne 7, 3) := by decide +kernel
theorem dX8_washesOut_13 : decode cX8_washesOut 13 = .ok (.iconst 3, 1) := by decide +kernel
theorem dX8_washesOut_14 : decode cX8_washesOut 14 = .ok (.goto 13, 3) := by decide +kernel
theorem dX8_washesOut_17 : decode cX8_washesOut 17 = .ok (.iload_n 0, 1) := by decide +kernel
theorem dX8_washesOut_18 : decode cX8_washesOut 18 = .ok (.iconst 2, 1) := by decide +kernel
theorem dX8_washesOut_19 : decode cX8_washesOut 19 = .ok (.if_icmp .ne 7, 3) := by decide +kernel
theorem dX8_washesOut_22 : decode cX8_washesOut 22 = .ok (.iconst 2, 1) := by decide +kernel
theorem dX8_washesOut_23 : decode cX8_washesOut 23 = .ok (.goto 4, 3) := by decide +kernel
theorem dX8_washesOut_26 : decode cX8_washesOut 26 = .ok (.iconst 4, 1) := by decide +kernel
theorem dX8_washesOut_27 : decode cX8_washesOut 27 = .ok (.ireturn, 1) := by decide +kernel
theorem dX8_costOf_0 : decode cX8_costOf 0 = .ok (.iload_n 0, 1) := by decide +kernel
theorem dX8_costOf_1 : decode cX8_costOf 1 = .ok (.ifCond .ne 8, 3) := by decide +kernel
theorem dX8_costOf_4 : decode cX8_costOf 4 = .ok (.bipush 8, 2) := by decide +kernel
theorem dX8_costOf_6 : decode cX8_costOf 6 = .ok (.goto 25, 3) := by decide +kernel
theorem dX8_costOf_9 : decode cX8_costOf 9 = .ok (.iload_n 0, 1) := by decide +kernel
theorem dX8_costOf_10 : decode cX8_costOf 10 = .ok (.iconst 1, 1) := by decide +kernel
theorem dX8_costOf_11 : decode cX8_costOf 11 = .ok (.if_icmp .ne 8, 3) := by decide +kernel
theorem dX8_costOf_14 : decode cX8_costOf 14 = .ok (.bipush 6, 2) := by decide +kernel
theorem dX8_costOf_16 : decode cX8_costOf 16 = .ok (.goto 15, 3) := by decide +kernel
theorem dX8_costOf_19 : decode cX8_costOf 19 = .ok (.iload_n 0, 1) := by decide +kernel
theorem dX8_costOf_20 : decode cX8_costOf 20 = .ok (.iconst 2, 1) := by decide +kernel
theorem dX8_costOf_21 : decode cX8_costOf 21 = .ok (.if_icmp .ne 8, 3) := by decide +kernel
theorem dX8_costOf_24 : decode cX8_costOf 24 = .ok (.bipush 10, 2) := by decide +kernel
theorem dX8_costOf_26 : decode cX8_costOf 26 = .ok (.goto 5, 3) := by decide +kernel
theorem dX8_costOf_29 : decode cX8_costOf 29 = .ok (.bipush 15, 2) := by decide +kernel
theorem dX8_costOf_31 : decode cX8_costOf 31 = .ok (.ireturn, 1) := by decide +kernel
theorem dX8_wash_0 : decode cX8_wash 0 = .ok (.aload_n 0, 1) := by decide +kernel
theorem dX8_wash_1 : decode cX8_wash 1 = .ok (.iconst 0, 1) := by decide +kernel
theorem dX8_wash_2 : decode cX8_wash 2 = .ok (.putfield 22, 3) := by decide +kernel
theorem dX8_wash_5 : decode cX8_wash 5 = .ok (.iload_n 1, 1) := by decide +kernel
theorem dX8_wash_6 : decode cX8_wash 6 = .ok (.i2l, 1) := by decide +kernel
theorem dX8_wash_7 : decode cX8_wash 7 = .ok (.lconst 0, 1) := by decide +kernel
theorem dX8_wash_8 : decode cX8_wash 8 = .ok (.ldc2_w 52, 3) := by decide +kernel
theorem dX8_wash_11 : decode cX8_wash 11 = .ok (.invokestatic 32, 3) := by decide +kernel
theorem dX8_wash_14 : decode cX8_wash 14 = .ok (.ifCond .eq 23, 3) := by decide +kernel
theorem dX8_wash_17 : decode cX8_wash 17 = .ok (.iload_n 2, 1) := by decide +kernel
theorem dX8_wash_18 : decode cX8_wash 18 = .ok (.i2l, 1) := by decide +kernel
theorem dX8_wash_19 : decode cX8_wash 19 = .ok (.lconst 1, 1) := by decide +kernel
theorem dX8_wash_20 : decode cX8_wash 20 = .ok (.iconst 1, 1) := by decide +kernel
theorem dX8_wash_21 : decode cX8_wash 21 = .ok (.aload_n 0, 1) := by decide +kernel
theorem dX8_wash_22 : decode cX8_wash 22 = .ok (.getfield 7, 3) := by decide +kernel
theorem dX8_wash_25 : decode cX8_wash 25 = .ok (.iconst 0, 1) := by decide +kernel
theorem dX8_wash_26 : decode cX8_wash 26 = .ok (.iaload, 1) := by decide +kernel
theorem dX8_wash_27 : decode cX8_wash 27 = .ok (.ishl, 1) := by decide +kernel
theorem dX8_wash_28 : decode cX8_wash 28 = .ok (.iconst 1, 1) := by decide +kernel
theorem dX8_wash_29 : decode cX8_wash 29 = .ok (.isub, 1) := by decide +kernel
theorem dX8_wash_30 : decode cX8_wash 30 = .ok (.i2l, 1) := by decide +kernel
theorem dX8_wash_31 : decode cX8_wash 31 = .ok (.invokestatic 32, 3) := by decide +kernel
theorem dX8_wash_34 : decode cX8_wash 34 = .ok (.ifCond .ne 7, 3) := by decide +kernel
theorem dX8_wash_37 : decode cX8_wash 37 = .ok (.sipush (-2001), 3) := by decide +kernel
theorem dX8_wash_40 : decode cX8_wash 40 = .ok (.ireturn, 1) := by decide +kernel
theorem dX8_wash_41 : decode cX8_wash 41 = .ok (.aload_n 0, 1) := by decide +kernel
theorem dX8_wash_42 : decode cX8_wash 42 = .ok (.iload_n 1, 1) := by decide +kernel
theorem dX8_wash_43 : decode cX8_wash 43 = .ok (.iload_n 2, 1) := by decide +kernel
theorem dX8_wash_44 : decode cX8_wash 44 = .ok (.invokevirtual 221, 3) := by decide +kernel
theorem dX8_wash_47 : decode cX8_wash 47 = .ok (.ifCond .ne 7, 3) := by decide +kernel
theorem dX8_wash_50 : decode cX8_wash 50 = .ok (.sipush (-2002), 3) := by decide +kernel
theorem dX8_wash_53 : decode cX8_wash 53 = .ok (.ireturn, 1) := by decide +kernel
theorem dX8_wash_54 : decode cX8_wash 54 = .ok (.aload_n 0, 1) := by decide +kernel
theorem dX8_wash_55 : decode cX8_wash 55 = .ok (.invokevirtual 29, 3) := by decide +kernel
theorem dX8_wash_58 : decode cX8_wash 58 = .ok (.iconst 0, 1) := by decide +kernel
theorem dX8_wash_59 : decode cX8_wash 59 = .ok (.istore_n 3, 1) := by decide +kernel
theorem dX8_wash_60 : decode cX8_wash 60 = .ok (.iconst 0, 1) := by decide +kernel
theorem dX8_wash_61 : decode cX8_wash 61 = .ok (.istore 4, 2) := by decide +kernel
theorem dX8_wash_63 : decode cX8_wash 63 = .ok (.iload 4, 2) := by decide +kernel
theorem dX8_wash_65 : decode cX8_wash 65 = .ok (.aload_n 0, 1) := by decide +kernel
theorem dX8_wash_66 : decode cX8_wash 66 = .ok (.getfield 7, 3) := by decide +kernel
theorem dX8_wash_69 : decode cX8_wash 69 = .ok (.iconst 0, 1) := by decide +kernel
theorem dX8_wash_70 : decode cX8_wash 70 = .ok (.iaload, 1) := by decide +kernel
theorem dX8_wash_71 : decode cX8_wash 71 = .ok (.if_icmp .ge 70, 3) := by decide +kernel
theorem dX8_wash_74 : decode cX8_wash 74 = .ok (.aload_n 0, 1) := by decide +kernel
theorem dX8_wash_75 : decode cX8_wash 75 = .ok (.iload 4, 2) := by decide +kernel
theorem dX8_wash_77 : decode cX8_wash 77 = .ok (.bipush 6, 2) := by decide +kernel
theorem dX8_wash_79 : decode cX8_wash 79 = .ok (.invokevirtual 75, 3) := by decide +kernel
theorem dX8_wash_82 : decode cX8_wash 82 = .ok (.istore 5, 2) := by decide +kernel
theorem dX8_wash_84 : decode cX8_wash 84 = .ok (.iload_n 2, 1) := by decide +kernel
theorem dX8_wash_85 : decode cX8_wash 85 = .ok (.iload 4, 2) := by decide +kernel
theorem dX8_wash_87 : decode cX8_wash 87 = .ok (.invokestatic 215, 3) := by decide +kernel
theorem dX8_wash_90 : decode cX8_wash 90 = .ok (.ifCond .ne 7, 3) := by decide +kernel
theorem dX8_wash_93 : decode cX8_wash 93 = .ok (.iconst 0, 1) := by decide +kernel
theorem dX8_wash_94 : decode cX8_wash 94 = .ok (.goto 21, 3) := by decide +kernel
theorem dX8_wash_97 : decode cX8_wash 97 = .ok (.iload 5, 2) := by decide +kernel
theorem dX8_wash_99 : decode cX8_wash 99 = .ok (.iload_n 1, 1) := by decide +kernel
theorem dX8_wash_100 : decode cX8_wash 100 = .ok (.invokestatic 224, 3) := by decide +kernel
theorem dX8_wash_103 : decode cX8_wash 103 = .ok (.if_icmp .ge 8, 3) := by decide +kernel
theorem dX8_wash_106 : decode cX8_wash 106 = .ok (.iload 5, 2) := by decide +kernel
theorem dX8_wash_108 : decode cX8_wash 108 = .ok (.goto 7, 3) := by decide +kernel
theorem dX8_wash_111 : decode cX8_wash 111 = .ok (.iload_n 1, 1) := by decide +kernel
theorem dX8_wash_112 : decode cX8_wash 112 = .ok (.invokestatic 224, 3) := by decide +kernel
theorem dX8_wash_115 : decode cX8_wash 115 = .ok (.istore 6, 2) := by decide +kernel
theorem dX8_wash_117 : decode cX8_wash 117 = .ok (.aload_n 0, 1) := by decide +kernel
theorem dX8_wash_118 : decode cX8_wash 118 = .ok (.iload 4, 2) := by decide +kernel
theorem dX8_wash_120 : decode cX8_wash 120 = .ok (.bipush 6, 2) := by decide +kernel
theorem dX8_wash_122 : decode cX8_wash 122 = .ok (.iload 5, 2) := by decide +kernel
theorem dX8_wash_124 : decode cX8_wash 124 = .ok (.iload 6, 2) := by decide +kernel
theorem dX8_wash_126 : decode cX8_wash 126 = .ok (.isub, 1) := by decide +kernel
theorem dX8_wash_127 : decode cX8_wash 127 = .ok (.invokevirtual 42, 3) := by decide +kernel
theorem dX8_wash_130 : decode cX8_wash 130 = .ok (.iload_n 3, 1) := by decide +kernel
theorem dX8_wash_131 : decode cX8_wash 131 = .ok (.iload 6, 2) := by decide +kernel
theorem dX8_wash_133 : decode cX8_wash 133 = .ok (.iadd, 1) := by decide +kernel
theorem dX8_wash_134 : decode cX8_wash 134 = .ok (.istore_n 3, 1) := by decide +kernel
theorem dX8_wash_135 : decode cX8_wash 135 = .ok (.iinc 4 1, 3) := by decide +kernel
theorem dX8_wash_138 : decode cX8_wash 138 = .ok (.goto (-75), 3) := by decide +kernel
theorem dX8_wash_141 : decode cX8_wash 141 = .ok (.aload_n 0, 1) := by decide +kernel
theorem dX8_wash_142 : decode cX8_wash 142 = .ok (.getfield 7, 3) := by decide +kernel
theorem dX8_wash_145 : decode cX8_wash 145 = .ok (.bipush 6, 2) := by decide +kernel
theorem dX8_wash_147 : decode cX8_wash 147 = .ok (.dup2, 1) := by decide +kernel
theorem dX8_wash_148 : decode cX8_wash 148 = .ok (.iaload, 1) := by decide +kernel
theorem dX8_wash_149 : decode cX8_wash 149 = .ok (.iload_n 1, 1) := by decide +kernel
theorem dX8_wash_150 : decode cX8_wash 150 = .ok (.invokestatic 227, 3) := by decide +kernel
theorem dX8_wash_153 : decode cX8_wash 153 = .ok (.iadd, 1) := by decide +kernel
theorem dX8_wash_154 : decode cX8_wash 154 = .ok (.iastore, 1) := by decide +kernel
theorem dX8_wash_155 : decode cX8_wash 155 = .ok (.iload_n 3, 1) := by decide +kernel
theorem dX8_wash_156 : decode cX8_wash 156 = .ok (.ireturn, 1) := by decide +kernel
theorem dX8_undo_0 : decode cX8_undo 0 = .ok (.aload_n 0, 1) := by decide +kernel
theorem dX8_undo_1 : decode cX8_undo 1 = .ok (.iconst 0, 1) := by decide +kernel
theorem dX8_undo_2 : decode cX8_undo 2 = .ok (.putfield 22, 3) := by decide +kernel
theorem dX8_undo_5 : decode cX8_undo 5 = .ok (.aload_n 0, 1) := by decide +kernel
theorem dX8_undo_6 : decode cX8_undo 6 = .ok (.getfield 26, 3) := by decide +kernel
theorem dX8_undo_9 : decode cX8_undo 9 = .ok (.ifCond .ne 7, 3) := by decide +kernel
theorem dX8_undo_12 : decode cX8_undo 12 = .ok (.sipush (-2002), 3) := by decide +kernel
theorem dX8_undo_15 : decode cX8_undo 15 = .ok (.ireturn, 1) := by decide +kernel
theorem dX8_undo_16 : decode cX8_undo 16 = .ok (.aload_n 0, 1) := by decide +kernel
theorem dX8_undo_17 : decode cX8_undo 17 = .ok (.dup, 1) := by decide +kernel
theorem dX8_undo_18 : decode cX8_undo 18 = .ok (.getfield 26, 3) := by decide +kernel
theorem dX8_undo_21 : decode cX8_undo 21 = .ok (.iconst 1, 1) := by decide +kernel
theorem dX8_undo_22 : decode cX8_undo 22 = .ok (.isub, 1) := by decide +kernel
theorem dX8_undo_23 : decode cX8_undo 23 = .ok (.putfield 26, 3) := by decide +kernel
theorem dX8_undo_26 : decode cX8_undo 26 = .ok (.iconst 0, 1) := by decide +kernel
theorem dX8_undo_27 : decode cX8_undo 27 = .ok (.istore_n 1, 1) := by decide +kernel
theorem dX8_undo_28 : decode cX8_undo 28 = .ok (.iload_n 1, 1) := by decide +kernel
theorem dX8_undo_29 : decode cX8_undo 29 = .ok (.sipush 572, 3) := by decide +kernel
theorem dX8_undo_32 : decode cX8_undo 32 = .ok (.if_icmp .ge 30, 3) := by decide +kernel
theorem dX8_undo_35 : decode cX8_undo 35 = .ok (.aload_n 0, 1) := by decide +kernel
theorem dX8_undo_36 : decode cX8_undo 36 = .ok (.getfield 7, 3) := by decide +kernel
theorem dX8_undo_39 : decode cX8_undo 39 = .ok (.iload_n 1, 1) := by decide +kernel
theorem dX8_undo_40 : decode cX8_undo 40 = .ok (.aload_n 0, 1) := by decide +kernel
theorem dX8_undo_41 : decode cX8_undo 41 = .ok (.getfield 16, 3) := by decide +kernel
theorem dX8_undo_44 : decode cX8_undo 44 = .ok (.sipush 572, 3) := by decide +kernel
theorem dX8_undo_47 : decode cX8_undo 47 = .ok (.aload_n 0, 1) := by decide +kernel
theorem dX8_undo_48 : decode cX8_undo 48 = .ok (.getfield 26, 3) := by decide +kernel
theorem dX8_undo_51 : decode cX8_undo 51 = .ok (.imul, 1) := by decide +kernel
theorem dX8_undo_52 : decode cX8_undo 52 = .ok (.iload_n 1, 1) := by decide +kernel
theorem dX8_undo_53 : decode cX8_undo 53 = .ok (.iadd, 1) := by decide +kernel
theorem dX8_undo_54 : decode cX8_undo 54 = .ok (.iaload, 1) := by decide +kernel
theorem dX8_undo_55 : decode cX8_undo 55 = .ok (.iastore, 1) := by decide +kernel
theorem dX8_undo_56 : decode cX8_undo 56 = .ok (.iinc 1 1, 3) := by decide +kernel
theorem dX8_undo_59 : decode cX8_undo 59 = .ok (.goto (-31), 3) := by decide +kernel
theorem dX8_undo_62 : decode cX8_undo 62 = .ok (.aload_n 0, 1) := by decide +kernel
theorem dX8_undo_63 : decode cX8_undo 63 = .ok (.getfield 26, 3) := by decide +kernel
theorem dX8_undo_66 : decode cX8_undo 66 = .ok (.ireturn, 1) := by decide +kernel
theorem dX8_quickChanges_0 : decode cX8_quickChanges 0 = .ok (.iconst 0, 1) := by decide +kernel
theorem dX8_quickChanges_1 : decode cX8_quickChanges 1 = .ok (.istore_n 1, 1) := by decide +kernel
theorem dX8_quickChanges_2 : decode cX8_quickChanges 2 = .ok (.iconst 0, 1) := by decide +kernel
theorem dX8_quickChanges_3 : decode cX8_quickChanges 3 = .ok (.istore_n 2, 1) := by decide +kernel
theorem dX8_quickChanges_4 : decode cX8_quickChanges 4 = .ok (.iload_n 2, 1) := by decide +kernel
theorem dX8_quickChanges_5 : decode cX8_quickChanges 5 = .ok (.iconst 1, 1) := by decide +kernel
theorem dX8_quickChanges_6 : decode cX8_quickChanges 6 = .ok (.iadd, 1) := by decide +kernel
theorem dX8_quickChanges_7 : decode cX8_quickChanges 7 = .ok (.bipush 12, 2) := by decide +kernel
theorem dX8_quickChanges_9 : decode cX8_quickChanges 9 = .ok (.if_icmp .ge 72, 3) := by decide +kernel
theorem dX8_quickChanges_12 : decode cX8_quickChanges 12 = .ok (.iconst 0, 1) := by decide +kernel
theorem dX8_quickChanges_13 : decode cX8_quickChanges 13 = .ok (.istore_n 3, 1) := by decide +kernel
theorem dX8_quickChanges_14 : decode cX8_quickChanges 14 = .ok (.iload_n 3, 1) := by decide +kernel
theorem dX8_quickChanges_15 : decode cX8_quickChanges 15 = .ok (.aload_n 0, 1) := by decide +kernel
theorem dX8_quickChanges_16 : decode cX8_quickChanges 16 = .ok (.getfield 7, 3) := by decide +kernel
theorem dX8_quickChanges_19 : decode cX8_quickChanges 19 = .ok (.iconst 1, 1) := by decide +kernel
theorem dX8_quickChanges_20 : decode cX8_quickChanges 20 = .ok (.iaload, 1) := by decide +kernel
theorem dX8_quickChanges_21 : decode cX8_quickChanges 21 = .ok (.if_icmp .ge 54, 3) := by decide +kernel
theorem dX8_quickChanges_24 : decode cX8_quickChanges 24 = .ok (.aload_n 0, 1) := by decide +kernel
theorem dX8_quickChanges_25 : decode cX8_quickChanges 25 = .ok (.iload_n 2, 1) := by decide +kernel
theorem dX8_quickChanges_26 : decode cX8_quickChanges 26 = .ok (.iload_n 3, 1) := by decide +kernel
theorem dX8_quickChanges_27 : decode cX8_quickChanges 27 = .ok (.invokevirtual 172, 3) := by decide +kernel
theorem dX8_quickChanges_30 : decode cX8_quickChanges 30 = .ok (.istore 4, 2) := by decide +kernel
theorem dX8_quickChanges_32 : decode cX8_quickChanges 32 = .ok (.aload_n 0, 1) := by decide +kernel
theorem dX8_quickChanges_33 : decode cX8_quickChanges 33 = .ok (.iload_n 2, 1) := by decide +kernel
theorem dX8_quickChanges_34 : decode cX8_quickChanges 34 = .ok (.iconst 1, 1) := by decide +kernel
theorem dX8_quickChanges_35 : decode cX8_quickChanges 35 = .ok (.iadd, 1) := by decide +kernel
theorem dX8_quickChanges_36 : decode cX8_quickChanges 36 = .ok (.iload_n 3, 1) := by decide +kernel
theorem dX8_quickChanges_37 : decode cX8_quickChanges 37 = .ok (.invokevirtual 172, 3) := by decide +kernel
theorem dX8_quickChanges_40 : decode cX8_quickChanges 40 = .ok (.istore 5, 2) := by decide +kernel
theorem dX8_quickChanges_42 : decode cX8_quickChanges 42 = .ok (.iload_n 1, 1) := by decide +kernel
theorem dX8_quickChanges_43 : decode cX8_quickChanges 43 = .ok (.iload 4, 2) := by decide +kernel
theorem dX8_quickChanges_45 : decode cX8_quickChanges 45 = .ok (.iconst (-1), 1) := by decide +kernel
theorem dX8_quickChanges_46 : decode cX8_quickChanges 46 = .ok (.if_icmp .eq 20, 3) := by decide +kernel
theorem dX8_quickChanges_49 : decode cX8_quickChanges 49 = .ok (.iload 5, 2) := by decide +kernel
theorem dX8_quickChanges_51 : decode cX8_quickChanges 51 = .ok (.iconst (-1), 1) := by decide +kernel
theorem dX8_quickChanges_52 : decode cX8_quickChanges 52 = .ok (.if_icmp .eq 14, 3) := by decide +kernel
theorem dX8_quickChanges_55 : decode cX8_quickChanges 55 = .ok (.iload 4, 2) := by decide +kernel
theorem dX8_quickChanges_57 : decode cX8_quickChanges 57 = .ok (.iload 5, 2) := by decide +kernel
theorem dX8_quickChanges_59 : decode cX8_quickChanges 59 = .ok (.if_icmp .eq 7, 3) := by decide +kernel
theorem dX8_quickChanges_62 : decode cX8_quickChanges 62 = .ok (.iconst 1, 1) := by decide +kernel
theorem dX8_quickChanges_63 : decode cX8_quickChanges 63 = .ok (.goto 4, 3) := by decide +kernel
theorem dX8_quickChanges_66 : decode cX8_quickChanges 66 = .ok (.iconst 0, 1) := by decide +kernel
theorem dX8_quickChanges_67 : decode cX8_quickChanges 67 = .ok (.iadd, 1) := by decide +kernel
theorem dX8_quickChanges_68 : decode cX8_quickChanges 68 = .ok (.istore_n 1, 1) := by decide +kernel
theorem dX8_quickChanges_69 : decode cX8_quickChanges 69 = .ok (.iinc 3 1, 3) := by decide +kernel
theorem dX8_quickChanges_72 : decode cX8_quickChanges 72 = .ok (.goto (-58), 3) := by decide +kernel
theorem dX8_quickChanges_75 : decode cX8_quickChanges 75 = .ok (.iinc 2 1, 3) := by decide +kernel
theorem dX8_quickChanges_78 : decode cX8_quickChanges 78 = .ok (.goto (-74), 3) := by decide +kernel
theorem dX8_quickChanges_81 : decode cX8_quickChanges 81 = .ok (.iload_n 1, 1) := by decide +kernel
theorem dX8_quickChanges_82 : decode cX8_quickChanges 82 = .ok (.ireturn, 1) := by decide +kernel
theorem dX8_awayToday_0 : decode cX8_awayToday 0 = .ok (.iconst 0, 1) := by decide +kernel
theorem dX8_awayToday_1 : decode cX8_awayToday 1 = .ok (.istore_n 1, 1) := by decide +kernel
theorem dX8_awayToday_2 : decode cX8_awayToday 2 = .ok (.iconst 0, 1) := by decide +kernel
theorem dX8_awayToday_3 : decode cX8_awayToday 3 = .ok (.istore_n 2, 1) := by decide +kernel
theorem dX8_awayToday_4 : decode cX8_awayToday 4 = .ok (.iload_n 2, 1) := by decide +kernel
theorem dX8_awayToday_5 : decode cX8_awayToday 5 = .ok (.aload_n 0, 1) := by decide +kernel
theorem dX8_awayToday_6 : decode cX8_awayToday 6 = .ok (.getfield 7, 3) := by decide +kernel
theorem dX8_awayToday_9 : decode cX8_awayToday 9 = .ok (.iconst 0, 1) := by decide +kernel
theorem dX8_awayToday_10 : decode cX8_awayToday 10 = .ok (.iaload, 1) := by decide +kernel
theorem dX8_awayToday_11 : decode cX8_awayToday 11 = .ok (.if_icmp .ge 27, 3) := by decide +kernel
theorem dX8_awayToday_14 : decode cX8_awayToday 14 = .ok (.iload_n 1, 1) := by decide +kernel
theorem dX8_awayToday_15 : decode cX8_awayToday 15 = .ok (.aload_n 0, 1) := by decide +kernel
theorem dX8_awayToday_16 : decode cX8_awayToday 16 = .ok (.iload_n 2, 1) := by decide +kernel
theorem dX8_awayToday_17 : decode cX8_awayToday 17 = .ok (.invokevirtual 92, 3) := by decide +kernel
theorem dX8_awayToday_20 : decode cX8_awayToday 20 = .ok (.ifCond .eq 9, 3) := by decide +kernel
theorem dX8_awayToday_23 : decode cX8_awayToday 23 = .ok (.iconst 1, 1) := by decide +kernel
theorem dX8_awayToday_24 : decode cX8_awayToday 24 = .ok (.iload_n 2, 1) := by decide +kernel
theorem dX8_awayToday_25 : decode cX8_awayToday 25 = .ok (.ishl, 1) := by decide +kernel
theorem dX8_awayToday_26 : decode cX8_awayToday 26 = .ok (.goto 4, 3) := by decide +kernel
theorem dX8_awayToday_29 : decode cX8_awayToday 29 = .ok (.iconst 0, 1) := by decide +kernel
theorem dX8_awayToday_30 : decode cX8_awayToday 30 = .ok (.ior, 1) := by decide +kernel
theorem dX8_awayToday_31 : decode cX8_awayToday 31 = .ok (.istore_n 1, 1) := by decide +kernel
theorem dX8_awayToday_32 : decode cX8_awayToday 32 = .ok (.iinc 2 1, 3) := by decide +kernel
theorem dX8_awayToday_35 : decode cX8_awayToday 35 = .ok (.goto (-31), 3) := by decide +kernel
theorem dX8_awayToday_38 : decode cX8_awayToday 38 = .ok (.iload_n 1, 1) := by decide +kernel
theorem dX8_awayToday_39 : decode cX8_awayToday 39 = .ok (.ireturn, 1) := by decide +kernel
theorem dX8_count_0 : decode cX8_count 0 = .ok (.aload_n 0, 1) := by decide +kernel
theorem dX8_count_1 : decode cX8_count 1 = .ok (.iconst 0, 1) := by decide +kernel
theorem dX8_count_2 : decode cX8_count 2 = .ok (.putfield 22, 3) := by decide +kernel
theorem dX8_count_5 : decode cX8_count 5 = .ok (.iload_n 1, 1) := by decide +kernel
theorem dX8_count_6 : decode cX8_count 6 = .ok (.tableswitch 119 0 11 #[62, 62, 62, 62, 69, 74, 81, 88, 96, 101, 109, 114], 62) := by decide +kernel
theorem dX8_count_68 : decode cX8_count 68 = .ok (.aload_n 0, 1) := by decide +kernel
theorem dX8_count_69 : decode cX8_count 69 = .ok (.getfield 7, 3) := by decide +kernel
theorem dX8_count_72 : decode cX8_count 72 = .ok (.iload_n 1, 1) := by decide +kernel
theorem dX8_count_73 : decode cX8_count 73 = .ok (.iaload, 1) := by decide +kernel
theorem dX8_count_74 : decode cX8_count 74 = .ok (.ireturn, 1) := by decide +kernel
theorem dX8_count_75 : decode cX8_count 75 = .ok (.aload_n 0, 1) := by decide +kernel
theorem dX8_count_76 : decode cX8_count 76 = .ok (.invokevirtual 230, 3) := by decide +kernel
theorem dX8_count_79 : decode cX8_count 79 = .ok (.ireturn, 1) := by decide +kernel
theorem dX8_count_80 : decode cX8_count 80 = .ok (.aload_n 0, 1) := by decide +kernel
theorem dX8_count_81 : decode cX8_count 81 = .ok (.getfield 7, 3) := by decide +kernel
theorem dX8_count_84 : decode cX8_count 84 = .ok (.iconst 4, 1) := by decide +kernel
theorem dX8_count_85 : decode cX8_count 85 = .ok (.iaload, 1) := by decide +kernel
theorem dX8_count_86 : decode cX8_count 86 = .ok (.ireturn, 1) := by decide +kernel
theorem dX8_count_87 : decode cX8_count 87 = .ok (.aload_n 0, 1) := by decide +kernel
theorem dX8_count_88 : decode cX8_count 88 = .ok (.getfield 7, 3) := by decide +kernel
theorem dX8_count_91 : decode cX8_count 91 = .ok (.iconst 5, 1) := by decide +kernel
theorem dX8_count_92 : decode cX8_count 92 = .ok (.iaload, 1) := by decide +kernel
theorem dX8_count_93 : decode cX8_count 93 = .ok (.ireturn, 1) := by decide +kernel
theorem dX8_count_94 : decode cX8_count 94 = .ok (.aload_n 0, 1) := by decide +kernel
theorem dX8_count_95 : decode cX8_count 95 = .ok (.getfield 7, 3) := by decide +kernel
theorem dX8_count_98 : decode cX8_count 98 = .ok (.bipush 6, 2) := by decide +kernel
theorem dX8_count_100 : decode cX8_count 100 = .ok (.iaload, 1) := by decide +kernel
theorem dX8_count_101 : decode cX8_count 101 = .ok (.ireturn, 1) := by decide +kernel
theorem dX8_count_102 : decode cX8_count 102 = .ok (.aload_n 0, 1) := by decide +kernel
theorem dX8_count_103 : decode cX8_count 103 = .ok (.invokevirtual 233, 3) := by decide +kernel
theorem dX8_count_106 : decode cX8_count 106 = .ok (.ireturn, 1) := by decide +kernel
theorem dX8_count_107 : decode cX8_count 107 = .ok (.aload_n 0, 1) := by decide +kernel
theorem dX8_count_108 : decode cX8_count 108 = .ok (.getfield 7, 3) := by decide +kernel
theorem dX8_count_111 : decode cX8_count 111 = .ok (.bipush 7, 2) := by decide +kernel
theorem dX8_count_113 : decode cX8_count 113 = .ok (.iaload, 1) := by decide +kernel
theorem dX8_count_114 : decode cX8_count 114 = .ok (.ireturn, 1) := by decide +kernel
theorem dX8_count_115 : decode cX8_count 115 = .ok (.aload_n 0, 1) := by decide +kernel
theorem dX8_count_116 : decode cX8_count 116 = .ok (.getfield 26, 3) := by decide +kernel
theorem dX8_count_119 : decode cX8_count 119 = .ok (.ireturn, 1) := by decide +kernel
theorem dX8_count_120 : decode cX8_count 120 = .ok (.aload_n 0, 1) := by decide +kernel
theorem dX8_count_121 : decode cX8_count 121 = .ok (.getfield 104, 3) := by decide +kernel
theorem dX8_count_124 : decode cX8_count 124 = .ok (.ireturn, 1) := by decide +kernel
theorem dX8_count_125 : decode cX8_count 125 = .ok (.iload_n 1, 1) := by decide +kernel
theorem dX8_count_126 : decode cX8_count 126 = .ok (.i2l, 1) := by decide +kernel
theorem dX8_count_127 : decode cX8_count 127 = .ok (.ldc2_w 236, 3) := by decide +kernel
theorem dX8_count_130 : decode cX8_count 130 = .ok (.ldc2_w 238, 3) := by decide +kernel
theorem dX8_count_133 : decode cX8_count 133 = .ok (.invokestatic 32, 3) := by decide +kernel
theorem dX8_count_136 : decode cX8_count 136 = .ok (.ifCond .eq 18, 3) := by decide +kernel
theorem dX8_count_139 : decode cX8_count 139 = .ok (.aload_n 0, 1) := by decide +kernel
theorem dX8_count_140 : decode cX8_count 140 = .ok (.getfield 7, 3) := by decide +kernel
theorem dX8_count_143 : decode cX8_count 143 = .ok (.bipush 8, 2) := by decide +kernel
theorem dX8_count_145 : decode cX8_count 145 = .ok (.iload_n 1, 1) := by decide +kernel
theorem dX8_count_146 : decode cX8_count 146 = .ok (.iadd, 1) := by decide +kernel
theorem dX8_count_147 : decode cX8_count 147 = .ok (.bipush 12, 2) := by decide +kernel
theorem dX8_count_149 : decode cX8_count 149 = .ok (.isub, 1) := by decide +kernel
theorem dX8_count_150 : decode cX8_count 150 = .ok (.iaload, 1) := by decide +kernel
theorem dX8_count_151 : decode cX8_count 151 = .ok (.goto 6, 3) := by decide +kernel
theorem dX8_count_154 : decode cX8_count 154 = .ok (.sipush (-2001), 3) := by decide +kernel
theorem dX8_count_157 : decode cX8_count 157 = .ok (.ireturn, 1) := by decide +kernel
theorem dX8_hiresOf_0 : decode cX8_hiresOf 0 = .ok (.iconst 0, 1) := by decide +kernel
theorem dX8_hiresOf_1 : decode cX8_hiresOf 1 = .ok (.istore_n 2, 1) := by decide +kernel
theorem dX8_hiresOf_2 : decode cX8_hiresOf 2 = .ok (.iconst 0, 1) := by decide +kernel
theorem dX8_hiresOf_3 : decode cX8_hiresOf 3 = .ok (.istore_n 3, 1) := by decide +kernel
theorem dX8_hiresOf_4 : decode cX8_hiresOf 4 = .ok (.iload_n 3, 1) := by decide +kernel
theorem dX8_hiresOf_5 : decode cX8_hiresOf 5 = .ok (.aload_n 0, 1) := by decide +kernel
theorem dX8_hiresOf_6 : decode cX8_hiresOf 6 = .ok (.getfield 7, 3) := by decide +kernel
theorem dX8_hiresOf_9 : decode cX8_hiresOf 9 = .ok (.iconst 2, 1) := by decide +kernel
theorem dX8_hiresOf_10 : decode cX8_hiresOf 10 = .ok (.iaload, 1) := by decide +kernel
theorem dX8_hiresOf_11 : decode cX8_hiresOf 11 = .ok (.if_icmp .ge 27, 3) := by decide +kernel
theorem dX8_hiresOf_14 : decode cX8_hiresOf 14 = .ok (.iload_n 2, 1) := by decide +kernel
theorem dX8_hiresOf_15 : decode cX8_hiresOf 15 = .ok (.aload_n 0, 1) := by decide +kernel
theorem dX8_hiresOf_16 : decode cX8_hiresOf 16 = .ok (.iload_n 3, 1) := by decide +kernel
theorem dX8_hiresOf_17 : decode cX8_hiresOf 17 = .ok (.iconst 0, 1) := by decide +kernel
theorem dX8_hiresOf_18 : decode cX8_hiresOf 18 = .ok (.invokevirtual 81, 3) := by decide +kernel
theorem dX8_hiresOf_21 : decode cX8_hiresOf 21 = .ok (.iload_n 1, 1) := by decide +kernel
theorem dX8_hiresOf_22 : decode cX8_hiresOf 22 = .ok (.if_icmp .ne 7, 3) := by decide +kernel
theorem dX8_hiresOf_25 : decode cX8_hiresOf 25 = .ok (.iconst 1, 1) := by decide +kernel
theorem dX8_hiresOf_26 : decode cX8_hiresOf 26 = .ok (.goto 4, 3) := by decide +kernel
theorem dX8_hiresOf_29 : decode cX8_hiresOf 29 = .ok (.iconst 0, 1) := by decide +kernel
theorem dX8_hiresOf_30 : decode cX8_hiresOf 30 = .ok (.iadd, 1) := by decide +kernel
theorem dX8_hiresOf_31 : decode cX8_hiresOf 31 = .ok (.istore_n 2, 1) := by decide +kernel
theorem dX8_hiresOf_32 : decode cX8_hiresOf 32 = .ok (.iinc 3 1, 3) := by decide +kernel
theorem dX8_hiresOf_35 : decode cX8_hiresOf 35 = .ok (.goto (-31), 3) := by decide +kernel
theorem dX8_hiresOf_38 : decode cX8_hiresOf 38 = .ok (.iload_n 2, 1) := by decide +kernel
theorem dX8_hiresOf_39 : decode cX8_hiresOf 39 = .ok (.ireturn, 1) := by decide +kernel
theorem dX8_costume_0 : decode cX8_costume 0 = .ok (.aload_n 0, 1) := by decide +kernel
theorem dX8_costume_1 : decode cX8_costume 1 = .ok (.iconst 0, 1) := by decide +kernel
theorem dX8_costume_2 : decode cX8_costume 2 = .ok (.putfield 22, 3) := by decide +kernel
theorem dX8_costume_5 : decode cX8_costume 5 = .ok (.aload_n 0, 1) := by decide +kernel
theorem dX8_costume_6 : decode cX8_costume 6 = .ok (.iload_n 1, 1) := by decide +kernel
theorem dX8_costume_7 : decode cX8_costume 7 = .ok (.invokevirtual 58, 3) := by decide +kernel
theorem dX8_costume_10 : decode cX8_costume 10 = .ok (.ifCond .eq 15, 3) := by decide +kernel
theorem dX8_costume_13 : decode cX8_costume 13 = .ok (.iload_n 2, 1) := by decide +kernel
theorem dX8_costume_14 : decode cX8_costume 14 = .ok (.i2l, 1) := by decide +kernel
theorem dX8_costume_15 : decode cX8_costume 15 = .ok (.lconst 0, 1) := by decide +kernel
theorem dX8_costume_16 : decode cX8_costume 16 = .ok (.ldc2_w 236, 3) := by decide +kernel
theorem dX8_costume_19 : decode cX8_costume 19 = .ok (.invokestatic 32, 3) := by decide +kernel
theorem dX8_costume_22 : decode cX8_costume 22 = .ok (.ifCond .ne 7, 3) := by decide +kernel
theorem dX8_costume_25 : decode cX8_costume 25 = .ok (.sipush (-2001), 3) := by decide +kernel
theorem dX8_costume_28 : decode cX8_costume 28 = .ok (.ireturn, 1) := by decide +kernel
theorem dX8_costume_29 : decode cX8_costume 29 = .ok (.iload_n 2, 1) := by decide +kernel
theorem dX8_costume_30 : decode cX8_costume 30 = .ok (.iconst 3, 1) := by decide +kernel
theorem dX8_costume_31 : decode cX8_costume 31 = .ok (.if_icmp .ge 10, 3) := by decide +kernel
theorem dX8_costume_34 : decode cX8_costume 34 = .ok (.aload_n 0, 1) := by decide +kernel
theorem dX8_costume_35 : decode cX8_costume 35 = .ok (.iload_n 1, 1) := by decide +kernel
theorem dX8_costume_36 : decode cX8_costume 36 = .ok (.iload_n 2, 1) := by decide +kernel
theorem dX8_costume_37 : decode cX8_costume 37 = .ok (.invokevirtual 78, 3) := by decide +kernel
theorem dX8_costume_40 : decode cX8_costume 40 = .ok (.ireturn, 1) := by decide +kernel
theorem dX8_costume_41 : decode cX8_costume 41 = .ok (.iload_n 2, 1) := by decide +kernel
theorem dX8_costume_42 : decode cX8_costume 42 = .ok (.bipush 11, 2) := by decide +kernel
theorem dX8_costume_44 : decode cX8_costume 44 = .ok (.if_icmp .ge 14, 3) := by decide +kernel
theorem dX8_costume_47 : decode cX8_costume 47 = .ok (.aload_n 0, 1) := by decide +kernel
theorem dX8_costume_48 : decode cX8_costume 48 = .ok (.iload_n 1, 1) := by decide +kernel
theorem dX8_costume_49 : decode cX8_costume 49 = .ok (.iload_n 2, 1) := by decide +kernel
theorem dX8_costume_50 : decode cX8_costume 50 = .ok (.iconst 3, 1) := by decide +kernel
theorem dX8_costume_51 : decode cX8_costume 51 = .ok (.isub, 1) := by decide +kernel
theorem dX8_costume_52 : decode cX8_costume 52 = .ok (.invokevirtual 75, 3) := by decide +kernel
theorem dX8_costume_55 : decode cX8_costume 55 = .ok (.goto 22, 3) := by decide +kernel
theorem dX8_costume_58 : decode cX8_costume 58 = .ok (.iload_n 2, 1) := by decide +kernel
theorem dX8_costume_59 : decode cX8_costume 59 = .ok (.bipush 11, 2) := by decide +kernel
theorem dX8_costume_61 : decode cX8_costume 61 = .ok (.if_icmp .ne 11, 3) := by decide +kernel
theorem dX8_costume_64 : decode cX8_costume 64 = .ok (.aload_n 0, 1) := by decide +kernel
theorem dX8_costume_65 : decode cX8_costume 65 = .ok (.iload_n 1, 1) := by decide +kernel
theorem dX8_costume_66 : decode cX8_costume 66 = .ok (.invokevirtual 200, 3) := by decide +kernel
theorem dX8_costume_69 : decode cX8_costume 69 = .ok (.goto 8, 3) := by decide +kernel
theorem dX8_costume_72 : decode cX8_costume 72 = .ok (.aload_n 0, 1) := by decide +kernel
theorem dX8_costume_73 : decode cX8_costume 73 = .ok (.iload_n 1, 1) := by decide +kernel
theorem dX8_costume_74 : decode cX8_costume 74 = .ok (.invokevirtual 240, 3) := by decide +kernel
theorem dX8_costume_77 : decode cX8_costume 77 = .ok (.ireturn, 1) := by decide +kernel
theorem dX8_alteration_0 : decode cX8_alteration 0 = .ok (.aload_n 0, 1) := by decide +kernel
theorem dX8_alteration_1 : decode cX8_alteration 1 = .ok (.iconst 0, 1) := by decide +kernel
theorem dX8_alteration_2 : decode cX8_alteration 2 = .ok (.putfield 22, 3) := by decide +kernel
theorem dX8_alteration_5 : decode cX8_alteration 5 = .ok (.aload_n 0, 1) := by decide +kernel
theorem dX8_alteration_6 : decode cX8_alteration 6 = .ok (.iload_n 1, 1) := by decide +kernel
theorem dX8_alteration_7 : decode cX8_alteration 7 = .ok (.invokevirtual 58, 3) := by decide +kernel
theorem dX8_alteration_10 : decode cX8_alteration 10 = .ok (.ifCond .eq 17, 3) := by decide +kernel
theorem dX8_alteration_13 : decode cX8_alteration 13 = .ok (.iload_n 2, 1) := by decide +kernel
theorem dX8_alteration_14 : decode cX8_alteration 14 = .ok (.ifCond .lt 13, 3) := by decide +kernel
theorem dX8_alteration_17 : decode cX8_alteration 17 = .ok (.iload_n 3, 1) := by decide +kernel
theorem dX8_alteration_18 : decode cX8_alteration 18 = .ok (.i2l, 1) := by decide +kernel
theorem dX8_alteration_19 : decode cX8_alteration 19 = .ok (.lconst 0, 1) := by decide +kernel
theorem dX8_alteration_20 : decode cX8_alteration 20 = .ok (.lconst 1, 1) := by decide +kernel
theorem dX8_alteration_21 : decode cX8_alteration 21 = .ok (.invokestatic 32, 3) := by decide +kernel
theorem dX8_alteration_24 : decode cX8_alteration 24 = .ok (.ifCond .ne 7, 3) := by decide +kernel
theorem dX8_alteration_27 : decode cX8_alteration 27 = .ok (.sipush (-2001), 3) := by decide +kernel
theorem dX8_alteration_30 : decode cX8_alteration 30 = .ok (.ireturn, 1) := by decide +kernel
theorem dX8_alteration_31 : decode cX8_alteration 31 = .ok (.iload_n 2, 1) := by decide +kernel
theorem dX8_alteration_32 : decode cX8_alteration 32 = .ok (.aload_n 0, 1) := by decide +kernel
theorem dX8_alteration_33 : decode cX8_alteration 33 = .ok (.iload_n 1, 1) := by decide +kernel
theorem dX8_alteration_34 : decode cX8_alteration 34 = .ok (.bipush 7, 2) := by decide +kernel
theorem dX8_alteration_36 : decode cX8_alteration 36 = .ok (.invokevirtual 75, 3) := by decide +kernel
theorem dX8_alteration_39 : decode cX8_alteration 39 = .ok (.if_icmp .ge 19, 3) := by decide +kernel
theorem dX8_alteration_42 : decode cX8_alteration 42 = .ok (.aload_n 0, 1) := by decide +kernel
theorem dX8_alteration_43 : decode cX8_alteration 43 = .ok (.iload_n 1, 1) := by decide +kernel
theorem dX8_alteration_44 : decode cX8_alteration 44 = .ok (.bipush 8, 2) := by decide +kernel
theorem dX8_alteration_46 : decode cX8_alteration 46 = .ok (.iconst 2, 1) := by decide +kernel
theorem dX8_alteration_47 : decode cX8_alteration 47 = .ok (.iload_n 2, 1) := by decide +kernel
theorem dX8_alteration_48 : decode cX8_alteration 48 = .ok (.imul, 1) := by decide +kernel
theorem dX8_alteration_49 : decode cX8_alteration 49 = .ok (.iadd, 1) := by decide +kernel
theorem dX8_alteration_50 : decode cX8_alteration 50 = .ok (.iload_n 3, 1) := by decide +kernel
theorem dX8_alteration_51 : decode cX8_alteration 51 = .ok (.iadd, 1) := by decide +kernel
theorem dX8_alteration_52 : decode cX8_alteration 52 = .ok (.invokevirtual 75, 3) := by decide +kernel
theorem dX8_alteration_55 : decode cX8_alteration 55 = .ok (.goto 6, 3) := by decide +kernel
theorem dX8_alteration_58 : decode cX8_alteration 58 = .ok (.sipush (-2009), 3) := by decide +kernel
theorem dX8_alteration_61 : decode cX8_alteration 61 = .ok (.ireturn, 1) := by decide +kernel
theorem dX8_actor_0 : decode cX8_actor 0 = .ok (.aload_n 0, 1) := by decide +kernel
theorem dX8_actor_1 : decode cX8_actor 1 = .ok (.iconst 0, 1) := by decide +kernel
theorem dX8_actor_2 : decode cX8_actor 2 = .ok (.putfield 22, 3) := by decide +kernel
theorem dX8_actor_5 : decode cX8_actor 5 = .ok (.aload_n 0, 1) := by decide +kernel
theorem dX8_actor_6 : decode cX8_actor 6 = .ok (.iload_n 1, 1) := by decide +kernel
theorem dX8_actor_7 : decode cX8_actor 7 = .ok (.invokevirtual 169, 3) := by decide +kernel
theorem dX8_actor_10 : decode cX8_actor 10 = .ok (.ifCond .eq 15, 3) := by decide +kernel
theorem dX8_actor_13 : decode cX8_actor 13 = .ok (.iload_n 2, 1) := by decide +kernel
theorem dX8_actor_14 : decode cX8_actor 14 = .ok (.i2l, 1) := by decide +kernel
theorem dX8_actor_15 : decode cX8_actor 15 = .ok (.lconst 0, 1) := by decide +kernel
theorem dX8_actor_16 : decode cX8_actor 16 = .ok (.ldc2_w 243, 3) := by decide +kernel
theorem dX8_actor_19 : decode cX8_actor 19 = .ok (.invokestatic 32, 3) := by decide +kernel
theorem dX8_actor_22 : decode cX8_actor 22 = .ok (.ifCond .ne 7, 3) := by decide +kernel
theorem dX8_actor_25 : decode cX8_actor 25 = .ok (.sipush (-2001), 3) := by decide +kernel
theorem dX8_actor_28 : decode cX8_actor 28 = .ok (.ireturn, 1) := by decide +kernel
theorem dX8_actor_29 : decode cX8_actor 29 = .ok (.iload_n 2, 1) := by decide +kernel
theorem dX8_actor_30 : decode cX8_actor 30 = .ok (.iconst 3, 1) := by decide +kernel
theorem dX8_actor_31 : decode cX8_actor 31 = .ok (.if_icmp .ge 12, 3) := by decide +kernel
theorem dX8_actor_34 : decode cX8_actor 34 = .ok (.aload_n 0, 1) := by decide +kernel
theorem dX8_actor_35 : decode cX8_actor 35 = .ok (.iload_n 1, 1) := by decide +kernel
theorem dX8_actor_36 : decode cX8_actor 36 = .ok (.iload_n 2, 1) := by decide +kernel
theorem dX8_actor_37 : decode cX8_actor 37 = .ok (.invokevirtual 184, 3) := by decide +kernel
theorem dX8_actor_40 : decode cX8_actor 40 = .ok (.goto 11, 3) := by decide +kernel
theorem dX8_actor_43 : decode cX8_actor 43 = .ok (.aload_n 0, 1) := by decide +kernel
theorem dX8_actor_44 : decode cX8_actor 44 = .ok (.iload_n 2, 1) := by decide +kernel
theorem dX8_actor_45 : decode cX8_actor 45 = .ok (.iconst 3, 1) := by decide +kernel
theorem dX8_actor_46 : decode cX8_actor 46 = .ok (.isub, 1) := by decide +kernel
theorem dX8_actor_47 : decode cX8_actor 47 = .ok (.iload_n 1, 1) := by decide +kernel
theorem dX8_actor_48 : decode cX8_actor 48 = .ok (.invokevirtual 172, 3) := by decide +kernel
theorem dX8_actor_51 : decode cX8_actor 51 = .ok (.ireturn, 1) := by decide +kernel
theorem dX8_hired_0 : decode cX8_hired 0 = .ok (.aload_n 0, 1) := by decide +kernel
theorem dX8_hired_1 : decode cX8_hired 1 = .ok (.iconst 0, 1) := by decide +kernel
theorem dX8_hired_2 : decode cX8_hired 2 = .ok (.putfield 22, 3) := by decide +kernel
theorem dX8_hired_5 : decode cX8_hired 5 = .ok (.iload_n 1, 1) := by decide +kernel
theorem dX8_hired_6 : decode cX8_hired 6 = .ok (.i2l, 1) := by decide +kernel
theorem dX8_hired_7 : decode cX8_hired 7 = .ok (.lconst 0, 1) := by decide +kernel
theorem dX8_hired_8 : decode cX8_hired 8 = .ok (.aload_n 0, 1) := by decide +kernel
theorem dX8_hired_9 : decode cX8_hired 9 = .ok (.getfield 7, 3) := by decide +kernel
theorem dX8_hired_12 : decode cX8_hired 12 = .ok (.iconst 2, 1) := by decide +kernel
theorem dX8_hired_13 : decode cX8_hired 13 = .ok (.iaload, 1) := by decide +kernel
theorem dX8_hired_14 : decode cX8_hired 14 = .ok (.iconst 1, 1) := by decide +kernel
theorem dX8_hired_15 : decode cX8_hired 15 = .ok (.isub, 1) := by decide +kernel
theorem dX8_hired_16 : decode cX8_hired 16 = .ok (.i2l, 1) := by decide +kernel
theorem dX8_hired_17 : decode cX8_hired 17 = .ok (.invokestatic 32, 3) := by decide +kernel
theorem dX8_hired_20 : decode cX8_hired 20 = .ok (.ifCond .eq 24, 3) := by decide +kernel
theorem dX8_hired_23 : decode cX8_hired 23 = .ok (.iload_n 2, 1) := by decide +kernel
theorem dX8_hired_24 : decode cX8_hired 24 = .ok (.i2l, 1) := by decide +kernel
theorem dX8_hired_25 : decode cX8_hired 25 = .ok (.lconst 0, 1) := by decide +kernel
theorem dX8_hired_26 : decode cX8_hired 26 = .ok (.ldc2_w 52, 3) := by decide +kernel
theorem dX8_hired_29 : decode cX8_hired 29 = .ok (.invokestatic 32, 3) := by decide +kernel
theorem dX8_hired_32 : decode cX8_hired 32 = .ok (.ifCond .eq 12, 3) := by decide +kernel
theorem dX8_hired_35 : decode cX8_hired 35 = .ok (.aload_n 0, 1) := by decide +kernel
theorem dX8_hired_36 : decode cX8_hired 36 = .ok (.iload_n 1, 1) := by decide +kernel
theorem dX8_hired_37 : decode cX8_hired 37 = .ok (.iload_n 2, 1) := by decide +kernel
theorem dX8_hired_38 : decode cX8_hired 38 = .ok (.invokevirtual 81, 3) := by decide +kernel
theorem dX8_hired_41 : decode cX8_hired 41 = .ok (.goto 6, 3) := by decide +kernel
theorem dX8_hired_44 : decode cX8_hired 44 = .ok (.sipush (-2001), 3) := by decide +kernel
theorem dX8_hired_47 : decode cX8_hired 47 = .ok (.ireturn, 1) := by decide +kernel
theorem dX8_problems_0 : decode cX8_problems 0 = .ok (.aload_n 0, 1) := by decide +kernel
theorem dX8_problems_1 : decode cX8_problems 1 = .ok (.iconst 0, 1) := by decide +kernel
theorem dX8_problems_2 : decode cX8_problems 2 = .ok (.putfield 22, 3) := by decide +kernel
theorem dX8_problems_5 : decode cX8_problems 5 = .ok (.iload_n 1, 1) := by decide +kernel
theorem dX8_problems_6 : decode cX8_problems 6 = .ok (.i2l, 1) := by decide +kernel
theorem dX8_problems_7 : decode cX8_problems 7 = .ok (.lconst 0, 1) := by decide +kernel
theorem dX8_problems_8 : decode cX8_problems 8 = .ok (.ldc2_w 245, 3) := by decide +kernel
theorem dX8_problems_11 : decode cX8_problems 11 = .ok (.invokestatic 32, 3) := by decide +kernel
theorem dX8_problems_14 : decode cX8_problems 14 = .ok (.ifCond .eq 11, 3) := by decide +kernel
theorem dX8_problems_17 : decode cX8_problems 17 = .ok (.aload_n 0, 1) := by decide +kernel
theorem dX8_problems_18 : decode cX8_problems 18 = .ok (.iload_n 1, 1) := by decide +kernel
theorem dX8_problems_19 : decode cX8_problems 19 = .ok (.invokevirtual 197, 3) := by decide +kernel
theorem dX8_problems_22 : decode cX8_problems 22 = .ok (.goto 6, 3) := by decide +kernel
theorem dX8_problems_25 : decode cX8_problems 25 = .ok (.sipush (-2001), 3) := by decide +kernel
theorem dX8_problems_28 : decode cX8_problems 28 = .ok (.ireturn, 1) := by decide +kernel
theorem dX8_misfit_0 : decode cX8_misfit 0 = .ok (.aload_n 0, 1) := by decide +kernel
theorem dX8_misfit_1 : decode cX8_misfit 1 = .ok (.iconst 0, 1) := by decide +kernel
theorem dX8_misfit_2 : decode cX8_misfit 2 = .ok (.putfield 22, 3) := by decide +kernel
theorem dX8_misfit_5 : decode cX8_misfit 5 = .ok (.aload_n 0, 1) := by decide +kernel
theorem dX8_misfit_6 : decode cX8_misfit 6 = .ok (.iload_n 1, 1) := by decide +kernel
theorem dX8_misfit_7 : decode cX8_misfit 7 = .ok (.invokevirtual 58, 3) := by decide +kernel
theorem dX8_misfit_10 : decode cX8_misfit 10 = .ok (.ifCond .eq 20, 3) := by decide +kernel
theorem dX8_misfit_13 : decode cX8_misfit 13 = .ok (.aload_n 0, 1) := by decide +kernel
theorem dX8_misfit_14 : decode cX8_misfit 14 = .ok (.iload_n 2, 1) := by decide +kernel
theorem dX8_misfit_15 : decode cX8_misfit 15 = .ok (.invokevirtual 169, 3) := by decide +kernel
theorem dX8_misfit_18 : decode cX8_misfit 18 = .ok (.ifCond .eq 12, 3) := by decide +kernel
theorem dX8_misfit_21 : decode cX8_misfit 21 = .ok (.aload_n 0, 1) := by decide +kernel
theorem dX8_misfit_22 : decode cX8_misfit 22 = .ok (.iload_n 1, 1) := by decide +kernel
theorem dX8_misfit_23 : decode cX8_misfit 23 = .ok (.iload_n 2, 1) := by decide +kernel
theorem dX8_misfit_24 : decode cX8_misfit 24 = .ok (.invokevirtual 187, 3) := by decide +kernel
theorem dX8_misfit_27 : decode cX8_misfit 27 = .ok (.goto 6, 3) := by decide +kernel
theorem dX8_misfit_30 : decode cX8_misfit 30 = .ok (.sipush (-2001), 3) := by decide +kernel
theorem dX8_misfit_33 : decode cX8_misfit 33 = .ok (.ireturn, 1) := by decide +kernel
theorem dX8_leastOf_0 : decode cX8_leastOf 0 = .ok (.iconst 0, 1) := by decide +kernel
theorem dX8_leastOf_1 : decode cX8_leastOf 1 = .ok (.istore_n 3, 1) := by decide +kernel
theorem dX8_leastOf_2 : decode cX8_leastOf 2 = .ok (.iconst 0, 1) := by decide +kernel
theorem dX8_leastOf_3 : decode cX8_leastOf 3 = .ok (.istore 4, 2) := by decide +kernel
theorem dX8_leastOf_5 : decode cX8_leastOf 5 = .ok (.iconst 0, 1) := by decide +kernel
theorem dX8_leastOf_6 : decode cX8_leastOf 6 = .ok (.istore 5, 2) := by decide +kernel
theorem dX8_leastOf_8 : decode cX8_leastOf 8 = .ok (.iload 5, 2) := by decide +kernel
theorem dX8_leastOf_10 : decode cX8_leastOf 10 = .ok (.iconst 3, 1) := by decide +kernel
theorem dX8_leastOf_11 : decode cX8_leastOf 11 = .ok (.if_icmp .ge 75, 3) := by decide +kernel
theorem dX8_leastOf_14 : decode cX8_leastOf 14 = .ok (.aload_n 0, 1) := by decide +kernel
theorem dX8_leastOf_15 : decode cX8_leastOf 15 = .ok (.iload_n 1, 1) := by decide +kernel
theorem dX8_leastOf_16 : decode cX8_leastOf 16 = .ok (.iload_n 2, 1) := by decide +kernel
theorem dX8_leastOf_17 : decode cX8_leastOf 17 = .ok (.iload 5, 2) := by decide +kernel
theorem dX8_leastOf_19 : decode cX8_leastOf 19 = .ok (.invokevirtual 181, 3) := by decide +kernel
theorem dX8_leastOf_22 : decode cX8_leastOf 22 = .ok (.aload_n 0, 1) := by decide +kernel
theorem dX8_leastOf_23 : decode cX8_leastOf 23 = .ok (.iload_n 1, 1) := by decide +kernel
theorem dX8_leastOf_24 : decode cX8_leastOf 24 = .ok (.iload 5, 2) := by decide +kernel
theorem dX8_leastOf_26 : decode cX8_leastOf 26 = .ok (.invokevirtual 78, 3) := by decide +kernel
theorem dX8_leastOf_29 : decode cX8_leastOf 29 = .ok (.isub, 1) := by decide +kernel
theorem dX8_leastOf_30 : decode cX8_leastOf 30 = .ok (.istore 6, 2) := by decide +kernel
theorem dX8_leastOf_32 : decode cX8_leastOf 32 = .ok (.iload 6, 2) := by decide +kernel
theorem dX8_leastOf_34 : decode cX8_leastOf 34 = .ok (.ifCond .eq 46, 3) := by decide +kernel
theorem dX8_leastOf_37 : decode cX8_leastOf 37 = .ok (.iload 6, 2) := by decide +kernel
theorem dX8_leastOf_39 : decode cX8_leastOf 39 = .ok (.i2l, 1) := by decide +kernel
theorem dX8_leastOf_40 : decode cX8_leastOf 40 = .ok (.ldc2_w 88, 3) := by decide +kernel
theorem dX8_leastOf_43 : decode cX8_leastOf 43 = .ok (.ldc2_w 90, 3) := by decide +kernel
theorem dX8_leastOf_46 : decode cX8_leastOf 46 = .ok (.invokestatic 32, 3) := by decide +kernel
theorem dX8_leastOf_49 : decode cX8_leastOf 49 = .ok (.ifCond .eq 15, 3) := by decide +kernel
theorem dX8_leastOf_52 : decode cX8_leastOf 52 = .ok (.aload_n 0, 1) := by decide +kernel
theorem dX8_leastOf_53 : decode cX8_leastOf 53 = .ok (.iload_n 1, 1) := by decide +kernel
theorem dX8_leastOf_54 : decode cX8_leastOf 54 = .ok (.iload 5, 2) := by decide +kernel
theorem dX8_leastOf_56 : decode cX8_leastOf 56 = .ok (.iload 6, 2) := by decide +kernel
theorem dX8_leastOf_58 : decode cX8_leastOf 58 = .ok (.invokevirtual 95, 3) := by decide +kernel
theorem dX8_leastOf_61 : decode cX8_leastOf 61 = .ok (.ifCond .ne 7, 3) := by decide +kernel
theorem dX8_leastOf_64 : decode cX8_leastOf 64 = .ok (.sipush (-2009), 3) := by decide +kernel
theorem dX8_leastOf_67 : decode cX8_leastOf 67 = .ok (.ireturn, 1) := by decide +kernel
theorem dX8_leastOf_68 : decode cX8_leastOf 68 = .ok (.iinc 4 1, 3) := by decide +kernel
theorem dX8_leastOf_71 : decode cX8_leastOf 71 = .ok (.iload_n 3, 1) := by decide +kernel
theorem dX8_leastOf_72 : decode cX8_leastOf 72 = .ok (.iload 6, 2) := by decide +kernel
theorem dX8_leastOf_74 : decode cX8_leastOf 74 = .ok (.iconst 0, 1) := by decide +kernel
theorem dX8_leastOf_75 : decode cX8_leastOf 75 = .ok (.invokestatic 99, 3) := by decide +kernel
theorem dX8_leastOf_78 : decode cX8_leastOf 78 = .ok (.iadd, 1) := by decide +kernel
theorem dX8_leastOf_79 : decode cX8_leastOf 79 = .ok (.istore_n 3, 1) := by decide +kernel
theorem dX8_leastOf_80 : decode cX8_leastOf 80 = .ok (.iinc 5 1, 3) := by decide +kernel
theorem dX8_leastOf_83 : decode cX8_leastOf 83 = .ok (.goto (-75), 3) := by decide +kernel
theorem dX8_leastOf_86 : decode cX8_leastOf 86 = .ok (.iload 4, 2) := by decide +kernel
theorem dX8_leastOf_88 : decode cX8_leastOf 88 = .ok (.bipush 6, 2) := by decide +kernel
theorem dX8_leastOf_90 : decode cX8_leastOf 90 = .ok (.aload_n 0, 1) := by decide +kernel
theorem dX8_leastOf_91 : decode cX8_leastOf 91 = .ok (.iload_n 1, 1) := by decide +kernel
theorem dX8_leastOf_92 : decode cX8_leastOf 92 = .ok (.bipush 7, 2) := by decide +kernel
theorem dX8_leastOf_94 : decode cX8_leastOf 94 = .ok (.invokevirtual 75, 3) := by decide +kernel
theorem dX8_leastOf_97 : decode cX8_leastOf 97 = .ok (.isub, 1) := by decide +kernel
theorem dX8_leastOf_98 : decode cX8_leastOf 98 = .ok (.if_icmp .le 9, 3) := by decide +kernel
theorem dX8_leastOf_101 : decode cX8_leastOf 101 = .ok (.sipush (-2009), 3) := by decide +kernel
theorem dX8_leastOf_104 : decode cX8_leastOf 104 = .ok (.goto 4, 3) := by decide +kernel
theorem dX8_leastOf_107 : decode cX8_leastOf 107 = .ok (.iload_n 3, 1) := by decide +kernel
theorem dX8_leastOf_108 : decode cX8_leastOf 108 = .ok (.ireturn, 1) := by decide +kernel
theorem dX8_leastAlteration_0 : decode cX8_leastAlteration 0 = .ok (.aload_n 0, 1) := by decide +kernel
theorem dX8_leastAlteration_1 : decode cX8_leastAlteration 1 = .ok (.iconst 0, 1) := by decide +kernel
theorem dX8_leastAlteration_2 : decode cX8_leastAlteration 2 = .ok (.putfield 22, 3) := by decide +kernel
theorem dX8_leastAlteration_5 : decode cX8_leastAlteration 5 = .ok (.aload_n 0, 1) := by decide +kernel
theorem dX8_leastAlteration_6 : decode cX8_leastAlteration 6 = .ok (.iload_n 1, 1) := by decide +kernel
theorem dX8_leastAlteration_7 : decode cX8_leastAlteration 7 = .ok (.invokevirtual 58, 3) := by decide +kernel
theorem dX8_leastAlteration_10 : decode cX8_leastAlteration 10 = .ok (.ifCond .eq 20, 3) := by decide +kernel
theorem dX8_leastAlteration_13 : decode cX8_leastAlteration 13 = .ok (.aload_n 0, 1) := by decide +kernel
theorem dX8_leastAlteration_14 : decode cX8_leastAlteration 14 = .ok (.iload_n 2, 1) := by decide +kernel
theorem dX8_leastAlteration_15 : decode cX8_leastAlteration 15 = .ok (.invokevirtual 169, 3) := by decide +kernel
theorem dX8_leastAlteration_18 : decode cX8_leastAlteration 18 = .ok (.ifCond .eq 12, 3) := by decide +kernel
theorem dX8_leastAlteration_21 : decode cX8_leastAlteration 21 = .ok (.aload_n 0, 1) := by decide +kernel
theorem dX8_leastAlteration_22 : decode cX8_leastAlteration 22 = .ok (.iload_n 1, 1) := by decide +kernel
theorem dX8_leastAlteration_23 : decode cX8_leastAlteration 23 = .ok (.iload_n 2, 1) := by decide +kernel
theorem dX8_leastAlteration_24 : decode cX8_leastAlteration 24 = .ok (.invokevirtual 247, 3) := by decide +kernel
theorem dX8_leastAlteration_27 : decode cX8_leastAlteration 27 = .ok (.goto 6, 3) := by decide +kernel
theorem dX8_leastAlteration_30 : decode cX8_leastAlteration 30 = .ok (.sipush (-2001), 3) := by decide +kernel
theorem dX8_leastAlteration_33 : decode cX8_leastAlteration 33 = .ok (.ireturn, 1) := by decide +kernel
theorem dX8_isTaken_0 : decode cX8_isTaken 0 = .ok (.iload_n 1, 1) := by decide +kernel
theorem dX8_isTaken_1 : decode cX8_isTaken 1 = .ok (.invokestatic 166, 3) := by decide +kernel
theorem dX8_isTaken_4 : decode cX8_isTaken 4 = .ok (.ifCond .eq 31, 3) := by decide +kernel
theorem dX8_isTaken_7 : decode cX8_isTaken 7 = .ok (.aload_n 0, 1) := by decide +kernel
theorem dX8_isTaken_8 : decode cX8_isTaken 8 = .ok (.iload_n 1, 1) := by decide +kernel
theorem dX8_isTaken_9 : decode cX8_isTaken 9 = .ok (.iload_n 3, 1) := by decide +kernel
theorem dX8_isTaken_10 : decode cX8_isTaken 10 = .ok (.invokevirtual 175, 3) := by decide +kernel
theorem dX8_isTaken_13 : decode cX8_isTaken 13 = .ok (.aload_n 0, 1) := by decide +kernel
theorem dX8_isTaken_14 : decode cX8_isTaken 14 = .ok (.iload_n 1, 1) := by decide +kernel
theorem dX8_isTaken_15 : decode cX8_isTaken 15 = .ok (.iload_n 2, 1) := by decide +kernel
theorem dX8_isTaken_16 : decode cX8_isTaken 16 = .ok (.invokevirtual 172, 3) := by decide +kernel
theorem dX8_isTaken_19 : decode cX8_isTaken 19 = .ok (.iload_n 3, 1) := by decide +kernel
theorem dX8_isTaken_20 : decode cX8_isTaken 20 = .ok (.if_icmp .ne 7, 3) := by decide +kernel
theorem dX8_isTaken_23 : decode cX8_isTaken 23 = .ok (.iconst 1, 1) := by decide +kernel
theorem dX8_isTaken_24 : decode cX8_isTaken 24 = .ok (.goto 4, 3) := by decide +kernel
theorem dX8_isTaken_27 : decode cX8_isTaken 27 = .ok (.iconst 0, 1) := by decide +kernel
theorem dX8_isTaken_28 : decode cX8_isTaken 28 = .ok (.if_icmp .le 7, 3) := by decide +kernel
theorem dX8_isTaken_31 : decode cX8_isTaken 31 = .ok (.iconst 1, 1) := by decide +kernel
theorem dX8_isTaken_32 : decode cX8_isTaken 32 = .ok (.goto 4, 3) := by decide +kernel
theorem dX8_isTaken_35 : decode cX8_isTaken 35 = .ok (.iconst 0, 1) := by decide +kernel
theorem dX8_isTaken_36 : decode cX8_isTaken 36 = .ok (.ireturn, 1) := by decide +kernel
theorem dX8_costumeFor_0 : decode cX8_costumeFor 0 = .ok (.aload_n 0, 1) := by decide +kernel
theorem dX8_costumeFor_1 : decode cX8_costumeFor 1 = .ok (.iconst 0, 1) := by decide +kernel
theorem dX8_costumeFor_2 : decode cX8_costumeFor 2 = .ok (.putfield 22, 3) := by decide +kernel
theorem dX8_costumeFor_5 : decode cX8_costumeFor 5 = .ok (.iload_n 1, 1) := by decide +kernel
theorem dX8_costumeFor_6 : decode cX8_costumeFor 6 = .ok (.invokestatic 166, 3) := by decide +kernel
theorem dX8_costumeFor_9 : decode cX8_costumeFor 9 = .ok (.ifCond .eq 11, 3) := by decide +kernel
theorem dX8_costumeFor_12 : decode cX8_costumeFor 12 = .ok (.aload_n 0, 1) := by decide +kernel
theorem dX8_costumeFor_13 : decode cX8_costumeFor 13 = .ok (.iload_n 2, 1) := by decide +kernel
theorem dX8_costumeFor_14 : decode cX8_costumeFor 14 = .ok (.invokevirtual 169, 3) := by decide +kernel
theorem dX8_costumeFor_17 : decode cX8_costumeFor 17 = .ok (.ifCond .ne 7, 3) := by decide +kernel
theorem dX8_costumeFor_20 : decode cX8_costumeFor 20 = .ok (.sipush (-2001), 3) := by decide +kernel
theorem dX8_costumeFor_23 : decode cX8_costumeFor 23 = .ok (.ireturn, 1) := by decide +kernel
theorem dX8_costumeFor_24 : decode cX8_costumeFor 24 = .ok (.sipush (-2009), 3) := by decide +kernel
theorem dX8_costumeFor_27 : decode cX8_costumeFor 27 = .ok (.istore_n 3, 1) := by decide +kernel
theorem dX8_costumeFor_28 : decode cX8_costumeFor 28 = .ok (.iconst 0, 1) := by decide +kernel
theorem dX8_costumeFor_29 : decode cX8_costumeFor 29 = .ok (.istore 4, 2) := by decide +kernel
theorem dX8_costumeFor_31 : decode cX8_costumeFor 31 = .ok (.iload 4, 2) := by decide +kernel
theorem dX8_costumeFor_33 : decode cX8_costumeFor 33 = .ok (.aload_n 0, 1) := by decide +kernel
theorem dX8_costumeFor_34 : decode cX8_costumeFor 34 = .ok (.getfield 7, 3) := by decide +kernel
theorem dX8_costumeFor_37 : decode cX8_costumeFor 37 = .ok (.iconst 0, 1) := by decide +kernel
theorem dX8_costumeFor_38 : decode cX8_costumeFor 38 = .ok (.iaload, 1) := by decide +kernel
theorem dX8_costumeFor_39 : decode cX8_costumeFor 39 = .ok (.if_icmp .ge 140, 3) := by decide +kernel
theorem dX8_costumeFor_42 : decode cX8_costumeFor 42 = .ok (.aload_n 0, 1) := by decide +kernel
theorem dX8_costumeFor_43 : decode cX8_costumeFor 43 = .ok (.iload_n 1, 1) := by decide +kernel
theorem dX8_costumeFor_44 : decode cX8_costumeFor 44 = .ok (.iload_n 2, 1) := by decide +kernel
theorem dX8_costumeFor_45 : decode cX8_costumeFor 45 = .ok (.iload 4, 2) := by decide +kernel
theorem dX8_costumeFor_47 : decode cX8_costumeFor 47 = .ok (.invokevirtual 250, 3) := by decide +kernel
theorem dX8_costumeFor_50 : decode cX8_costumeFor 50 = .ok (.ifCond .ne 33, 3) := by decide +kernel
theorem dX8_costumeFor_53 : decode cX8_costumeFor 53 = .ok (.aload_n 0, 1) := by decide +kernel
theorem dX8_costumeFor_54 : decode cX8_costumeFor 54 = .ok (.iload_n 1, 1) := by decide +kernel
theorem dX8_costumeFor_55 : decode cX8_costumeFor 55 = .ok (.iconst 1, 1) := by decide +kernel
theorem dX8_costumeFor_56 : decode cX8_costumeFor 56 = .ok (.isub, 1) := by decide +kernel
theorem dX8_costumeFor_57 : decode cX8_costumeFor 57 = .ok (.iload_n 2, 1) := by decide +kernel
theorem dX8_costumeFor_58 : decode cX8_costumeFor 58 = .ok (.iload 4, 2) := by decide +kernel
theorem dX8_costumeFor_60 : decode cX8_costumeFor 60 = .ok (.invokevirtual 250, 3) := by decide +kernel
theorem dX8_costumeFor_63 : decode cX8_costumeFor 63 = .ok (.ifCond .ne 20, 3) := by decide +kernel
theorem dX8_costumeFor_66 : decode cX8_costumeFor 66 = .ok (.aload_n 0, 1) := by decide +kernel
theorem dX8_costumeFor_67 : decode cX8_costumeFor 67 = .ok (.iload_n 1, 1) := by decide +kernel
theorem dX8_costumeFor_68 : decode cX8_costumeFor 68 = .ok (.iconst 1, 1) := by decide +kernel
theorem dX8_costumeFor_69 : decode cX8_costumeFor 69 = .ok (.iadd, 1) := by decide +kernel
theorem dX8_costumeFor_70 : decode cX8_costumeFor 70 = .ok (.iload_n 2, 1) := by decide +kernel
theorem dX8_costumeFor_71 : decode cX8_costumeFor 71 = .ok (.iload 4, 2) := by decide +kernel
theorem dX8_costumeFor_73 : decode cX8_costumeFor 73 = .ok (.invokevirtual 250, 3) := by decide +kernel
theorem dX8_costumeFor_76 : decode cX8_costumeFor 76 = .ok (.ifCond .ne 7, 3) := by decide +kernel
theorem dX8_costumeFor_79 : decode cX8_costumeFor 79 = .ok (.iconst 1, 1) := by decide +kernel
theorem dX8_costumeFor_80 : decode cX8_costumeFor 80 = .ok (.goto 4, 3) := by decide +kernel
theorem dX8_costumeFor_83 : decode cX8_costumeFor 83 = .ok (.iconst 0, 1) := by decide +kernel
theorem dX8_costumeFor_84 : decode cX8_costumeFor 84 = .ok (.istore 5, 2) := by decide +kernel
theorem dX8_costumeFor_86 : decode cX8_costumeFor 86 = .ok (.iload 5, 2) := by decide +kernel
theorem dX8_costumeFor_88 : decode cX8_costumeFor 88 = .ok (.ifCond .eq 47, 3) := by decide +kernel
theorem dX8_costumeFor_91 : decode cX8_costumeFor 91 = .ok (.aload_n 0, 1) := by decide +kernel
theorem dX8_costumeFor_92 : decode cX8_costumeFor 92 = .ok (.iload 4, 2) := by decide +kernel
theorem dX8_costumeFor_94 : decode cX8_costumeFor 94 = .ok (.invokevirtual 92, 3) := by decide +kernel
theorem dX8_costumeFor_97 : decode cX8_costumeFor 97 = .ok (.ifCond .ne 38, 3) := by decide +kernel
theorem dX8_costumeFor_100 : decode cX8_costumeFor 100 = .ok (.aload_n 0, 1) := by decide +kernel
theorem dX8_costumeFor_101 : decode cX8_costumeFor 101 = .ok (.iload 4, 2) := by decide +kernel
theorem dX8_costumeFor_103 : decode cX8_costumeFor 103 = .ok (.bipush 6, 2) := by decide +kernel
theorem dX8_costumeFor_105 : decode cX8_costumeFor 105 = .ok (.invokevirtual 75, 3) := by decide +kernel
theorem dX8_costumeFor_108 : decode cX8_costumeFor 108 = .ok (.aload_n 0, 1) := by decide +kernel
theorem dX8_costumeFor_109 : decode cX8_costumeFor 109 = .ok (.getfield 7, 3) := by decide +kernel
theorem dX8_costumeFor_112 : decode cX8_costumeFor 112 = .ok (.bipush 11, 2) := by decide +kernel
theorem dX8_costumeFor_114 : decode cX8_costumeFor 114 = .ok (.iaload, 1) := by decide +kernel
theorem dX8_costumeFor_115 : decode cX8_costumeFor 115 = .ok (.if_icmp .ge 20, 3) := by decide +kernel
theorem dX8_costumeFor_118 : decode cX8_costumeFor 118 = .ok (.aload_n 0, 1) := by decide +kernel
theorem dX8_costumeFor_119 : decode cX8_costumeFor 119 = .ok (.iload 4, 2) := by decide +kernel
theorem dX8_costumeFor_121 : decode cX8_costumeFor 121 = .ok (.iload_n 2, 1) := by decide +kernel
theorem dX8_costumeFor_122 : decode cX8_costumeFor 122 = .ok (.invokevirtual 247, 3) := by decide +kernel
theorem dX8_costumeFor_125 : decode cX8_costumeFor 125 = .ok (.sipush (-2009), 3) := by decide +kernel
theorem dX8_costumeFor_128 : decode cX8_costumeFor 128 = .ok (.if_icmp .eq 7, 3) := by decide +kernel
theorem dX8_costumeFor_131 : decode cX8_costumeFor 131 = .ok (.iconst 1, 1) := by decide +kernel
theorem dX8_costumeFor_132 : decode cX8_costumeFor 132 = .ok (.goto 4, 3) := by decide +kernel
theorem dX8_costumeFor_135 : decode cX8_costumeFor 135 = .ok (.iconst 0, 1) := by decide +kernel
theorem dX8_costumeFor_136 : decode cX8_costumeFor 136 = .ok (.istore 5, 2) := by decide +kernel
theorem dX8_costumeFor_138 : decode cX8_costumeFor 138 = .ok (.iload 5, 2) := by decide +kernel
theorem dX8_costumeFor_140 : decode cX8_costumeFor 140 = .ok (.ifCond .eq 31, 3) := by decide +kernel
theorem dX8_costumeFor_143 : decode cX8_costumeFor 143 = .ok (.iload_n 3, 1) := by decide +kernel
theorem dX8_costumeFor_144 : decode cX8_costumeFor 144 = .ok (.sipush (-2009), 3) := by decide +kernel
theorem dX8_costumeFor_147 : decode cX8_costumeFor 147 = .ok (.if_icmp .eq 19, 3) := by decide +kernel
theorem dX8_costumeFor_150 : decode cX8_costumeFor 150 = .ok (.aload_n 0, 1) := by decide +kernel
theorem dX8_costumeFor_151 : decode cX8_costumeFor 151 = .ok (.iload 4, 2) := by decide +kernel
theorem dX8_costumeFor_153 : decode cX8_costumeFor 153 = .ok (.iload_n 2, 1) := by decide +kernel
theorem dX8_costumeFor_154 : decode cX8_costumeFor 154 = .ok (.invokevirtual 247, 3) := by decide +kernel
theorem dX8_costumeFor_157 : decode cX8_costumeFor 157 = .ok (.aload_n 0, 1) := by decide +kernel
theorem dX8_costumeFor_158 : decode cX8_costumeFor 158 = .ok (.iload_n 3, 1) := by decide +kernel
theorem dX8_costumeFor_159 : decode cX8_costumeFor 159 = .ok (.iload_n 2, 1) := by decide +kernel
theorem dX8_costumeFor_160 : decode cX8_costumeFor 160 = .ok (.invokevirtual 247, 3) := by decide +kernel
theorem dX8_costumeFor_163 : decode cX8_costumeFor 163 = .ok (.if_icmp .ge 8, 3) := by decide +kernel
theorem dX8_costumeFor_166 : decode cX8_costumeFor 166 = .ok (.iload 4, 2) := by decide +kernel
theorem dX8_costumeFor_168 : decode cX8_costumeFor 168 = .ok (.goto 4, 3) := by decide +kernel
theorem dX8_costumeFor_171 : decode cX8_costumeFor 171 = .ok (.iload_n 3, 1) := by decide +kernel
theorem dX8_costumeFor_172 : decode cX8_costumeFor 172 = .ok (.istore_n 3, 1) := by decide +kernel
theorem dX8_costumeFor_173 : decode cX8_costumeFor 173 = .ok (.iinc 4 1, 3) := by decide +kernel
theorem dX8_costumeFor_176 : decode cX8_costumeFor 176 = .ok (.goto (-145), 3) := by decide +kernel
theorem dX8_costumeFor_179 : decode cX8_costumeFor 179 = .ok (.iload_n 3, 1) := by decide +kernel
theorem dX8_costumeFor_180 : decode cX8_costumeFor 180 = .ok (.ireturn, 1) := by decide +kernel
theorem dX8_freeFrom_0 : decode cX8_freeFrom 0 = .ok (.aload_n 0, 1) := by decide +kernel
theorem dX8_freeFrom_1 : decode cX8_freeFrom 1 = .ok (.iconst 0, 1) := by decide +kernel
theorem dX8_freeFrom_2 : decode cX8_freeFrom 2 = .ok (.putfield 22, 3) := by decide +kernel
theorem dX8_freeFrom_5 : decode cX8_freeFrom 5 = .ok (.aload_n 0, 1) := by decide +kernel
theorem dX8_freeFrom_6 : decode cX8_freeFrom 6 = .ok (.iload_n 1, 1) := by decide +kernel
theorem dX8_freeFrom_7 : decode cX8_freeFrom 7 = .ok (.invokevirtual 58, 3) := by decide +kernel
theorem dX8_freeFrom_10 : decode cX8_freeFrom 10 = .ok (.ifCond .eq 15, 3) := by decide +kernel
theorem dX8_freeFrom_13 : decode cX8_freeFrom 13 = .ok (.iload_n 2, 1) := by decide +kernel
theorem dX8_freeFrom_14 : decode cX8_freeFrom 14 = .ok (.i2l, 1) := by decide +kernel
theorem dX8_freeFrom_15 : decode cX8_freeFrom 15 = .ok (.lconst 1, 1) := by decide +kernel
theorem dX8_freeFrom_16 : decode cX8_freeFrom 16 = .ok (.ldc2_w 203, 3) := by decide +kernel
theorem dX8_freeFrom_19 : decode cX8_freeFrom 19 = .ok (.invokestatic 32, 3) := by decide +kernel
theorem dX8_freeFrom_22 : decode cX8_freeFrom 22 = .ok (.ifCond .ne 7, 3) := by decide +kernel
theorem dX8_freeFrom_25 : decode cX8_freeFrom 25 = .ok (.sipush (-2001), 3) := by decide +kernel
theorem dX8_freeFrom_28 : decode cX8_freeFrom 28 = .ok (.ireturn, 1) := by decide +kernel
theorem dX8_freeFrom_29 : decode cX8_freeFrom 29 = .ok (.aload_n 0, 1) := by decide +kernel
theorem dX8_freeFrom_30 : decode cX8_freeFrom 30 = .ok (.getfield 7, 3) := by decide +kernel
theorem dX8_freeFrom_33 : decode cX8_freeFrom 33 = .ok (.iconst 3, 1) := by decide +kernel
theorem dX8_freeFrom_34 : decode cX8_freeFrom 34 = .ok (.iaload, 1) := by decide +kernel
theorem dX8_freeFrom_35 : decode cX8_freeFrom 35 = .ok (.istore_n 3, 1) := by decide +kernel
theorem dX8_freeFrom_36 : decode cX8_freeFrom 36 = .ok (.aload_n 0, 1) := by decide +kernel
theorem dX8_freeFrom_37 : decode cX8_freeFrom 37 = .ok (.iload_n 1, 1) := by decide +kernel
theorem dX8_freeFrom_38 : decode cX8_freeFrom 38 = .ok (.iload_n 3, 1) := by decide +kernel
theorem dX8_freeFrom_39 : decode cX8_freeFrom 39 = .ok (.iload_n 2, 1) := by decide +kernel
theorem dX8_freeFrom_40 : decode cX8_freeFrom 40 = .ok (.invokevirtual 209, 3) := by decide +kernel
theorem dX8_freeFrom_43 : decode cX8_freeFrom 43 = .ok (.ifCond .eq 9, 3) := by decide +kernel
theorem dX8_freeFrom_46 : decode cX8_freeFrom 46 = .ok (.iinc 3 1, 3) := by decide +kernel
theorem dX8_freeFrom_49 : decode cX8_freeFrom 49 = .ok (.goto (-13), 3) := by decide +kernel
theorem dX8_freeFrom_52 : decode cX8_freeFrom 52 = .ok (.iload_n 3, 1) := by decide +kernel
theorem dX8_freeFrom_53 : decode cX8_freeFrom 53 = .ok (.ireturn, 1) := by decide +kernel
theorem dX8_washable_0 : decode cX8_washable 0 = .ok (.aload_n 0, 1) := by decide +kernel
theorem dX8_washable_1 : decode cX8_washable 1 = .ok (.iconst 0, 1) := by decide +kernel
theorem dX8_washable_2 : decode cX8_washable 2 = .ok (.putfield 22, 3) := by decide +kernel
theorem dX8_washable_5 : decode cX8_washable 5 = .ok (.iload_n 1, 1) := by decide +kernel
theorem dX8_washable_6 : decode cX8_washable 6 = .ok (.i2l, 1) := by decide +kernel
theorem dX8_washable_7 : decode cX8_washable 7 = .ok (.lconst 0, 1) := by decide +kernel
theorem dX8_washable_8 : decode cX8_washable 8 = .ok (.ldc2_w 52, 3) := by decide +kernel
theorem dX8_washable_11 : decode cX8_washable 11 = .ok (.invokestatic 32, 3) := by decide +kernel
theorem dX8_washable_14 : decode cX8_washable 14 = .ok (.ifCond .eq 13, 3) := by decide +kernel
theorem dX8_washable_17 : decode cX8_washable 17 = .ok (.iload_n 2, 1) := by decide +kernel
theorem dX8_washable_18 : decode cX8_washable 18 = .ok (.i2l, 1) := by decide +kernel
theorem dX8_washable_19 : decode cX8_washable 19 = .ok (.lconst 0, 1) := by decide +kernel
theorem dX8_washable_20 : decode cX8_washable 20 = .ok (.lconst 1, 1) := by decide +kernel
theorem dX8_washable_21 : decode cX8_washable 21 = .ok (.invokestatic 32, 3) := by decide +kernel
theorem dX8_washable_24 : decode cX8_washable 24 = .ok (.ifCond .ne 7, 3) := by decide +kernel
theorem dX8_washable_27 : decode cX8_washable 27 = .ok (.sipush (-2001), 3) := by decide +kernel
theorem dX8_washable_30 : decode cX8_washable 30 = .ok (.ireturn, 1) := by decide +kernel
theorem dX8_washable_31 : decode cX8_washable 31 = .ok (.iconst 0, 1) := by decide +kernel
theorem dX8_washable_32 : decode cX8_washable 32 = .ok (.istore_n 3, 1) := by decide +kernel
theorem dX8_washable_33 : decode cX8_washable 33 = .ok (.iconst 0, 1) := by decide +kernel
theorem dX8_washable_34 : decode cX8_washable 34 = .ok (.istore 4, 2) := by decide +kernel
theorem dX8_washable_36 : decode cX8_washable 36 = .ok (.iload 4, 2) := by decide +kernel
theorem dX8_washable_38 : decode cX8_washable 38 = .ok (.aload_n 0, 1) := by decide +kernel
theorem dX8_washable_39 : decode cX8_washable 39 = .ok (.getfield 7, 3) := by decide +kernel
theorem dX8_washable_42 : decode cX8_washable 42 = .ok (.iconst 0, 1) := by decide +kernel
theorem dX8_washable_43 : decode cX8_washable 43 = .ok (.iaload, 1) := by decide +kernel
theorem dX8_washable_44 : decode cX8_washable 44 = .ok (.if_icmp .ge 82, 3) := by decide +kernel
theorem dX8_washable_47 : decode cX8_washable 47 = .ok (.aload_n 0, 1) := by decide +kernel
theorem dX8_washable_48 : decode cX8_washable 48 = .ok (.iload 4, 2) := by decide +kernel
theorem dX8_washable_50 : decode cX8_washable 50 = .ok (.bipush 6, 2) := by decide +kernel
theorem dX8_washable_52 : decode cX8_washable 52 = .ok (.invokevirtual 75, 3) := by decide +kernel
theorem dX8_washable_55 : decode cX8_washable 55 = .ok (.ifCond .le 46, 3) := by decide +kernel
theorem dX8_washable_58 : decode cX8_washable 58 = .ok (.aload_n 0, 1) := by decide +kernel
theorem dX8_washable_59 : decode cX8_washable 59 = .ok (.iload 4, 2) := by decide +kernel
theorem dX8_washable_61 : decode cX8_washable 61 = .ok (.invokevirtual 92, 3) := by decide +kernel
theorem dX8_washable_64 : decode cX8_washable 64 = .ok (.ifCond .ne 37, 3) := by decide +kernel
theorem dX8_washable_67 : decode cX8_washable 67 = .ok (.iload_n 1, 1) := by decide +kernel
theorem dX8_washable_68 : decode cX8_washable 68 = .ok (.aload_n 0, 1) := by decide +kernel
theorem dX8_washable_69 : decode cX8_washable 69 = .ok (.iload 4, 2) := by decide +kernel
theorem dX8_washable_71 : decode cX8_washable 71 = .ok (.iconst 4, 1) := by decide +kernel
theorem dX8_washable_72 : decode cX8_washable 72 = .ok (.invokevirtual 75, 3) := by decide +kernel
theorem dX8_washable_75 : decode cX8_washable 75 = .ok (.invokestatic 218, 3) := by decide +kernel
theorem dX8_washable_78 : decode cX8_washable 78 = .ok (.ifCond .eq 23, 3) := by decide +kernel
theorem dX8_washable_81 : decode cX8_washable 81 = .ok (.iload_n 1, 1) := by decide +kernel
theorem dX8_washable_82 : decode cX8_washable 82 = .ok (.iconst 3, 1) := by decide +kernel
theorem dX8_washable_83 : decode cX8_washable 83 = .ok (.if_icmp .eq 14, 3) := by decide +kernel
theorem dX8_washable_86 : decode cX8_washable 86 = .ok (.aload_n 0, 1) := by decide +kernel
theorem dX8_washable_87 : decode cX8_washable 87 = .ok (.iload 4, 2) := by decide +kernel
theorem dX8_washable_89 : decode cX8_washable 89 = .ok (.iconst 5, 1) := by decide +kernel
theorem dX8_washable_90 : decode cX8_washable 90 = .ok (.invokevirtual 75, 3) := by decide +kernel
theorem dX8_washable_93 : decode cX8_washable 93 = .ok (.iload_n 2, 1) := by decide +kernel
theorem dX8_washable_94 : decode cX8_washable 94 = .ok (.if_icmp .ne 7, 3) := by decide +kernel
theorem dX8_washable_97 : decode cX8_washable 97 = .ok (.iconst 1, 1) := by decide +kernel
theorem dX8_washable_98 : decode cX8_washable 98 = .ok (.goto 4, 3) := by decide +kernel
theorem dX8_washable_101 : decode cX8_washable 101 = .ok (.iconst 0, 1) := by decide +kernel
theorem dX8_washable_102 : decode cX8_washable 102 = .ok (.istore 5, 2) := by decide +kernel
theorem dX8_washable_104 : decode cX8_washable 104 = .ok (.iload_n 3, 1) := by decide +kernel
theorem dX8_washable_105 : decode cX8_washable 105 = .ok (.iload 5, 2) := by decide +kernel
theorem dX8_washable_107 : decode cX8_washable 107 = .ok (.ifCond .eq 10, 3) := by decide +kernel
theorem dX8_washable_110 : decode cX8_washable 110 = .ok (.iconst 1, 1) := by decide +kernel
theorem dX8_washable_111 : decode cX8_washable 111 = .ok (.iload 4, 2) := by decide +kernel
theorem dX8_washable_113 : decode cX8_washable 113 = .ok (.ishl, 1) := by decide +kernel
theorem dX8_washable_114 : decode cX8_washable 114 = .ok (.goto 4, 3) := by decide +kernel
theorem dX8_washable_117 : decode cX8_washable 117 = .ok (.iconst 0, 1) := by decide +kernel
theorem dX8_washable_118 : decode cX8_washable 118 = .ok (.ior, 1) := by decide +kernel
theorem dX8_washable_119 : decode cX8_washable 119 = .ok (.istore_n 3, 1) := by decide +kernel
theorem dX8_washable_120 : decode cX8_washable 120 = .ok (.iinc 4 1, 3) := by decide +kernel
theorem dX8_washable_123 : decode cX8_washable 123 = .ok (.goto (-87), 3) := by decide +kernel
theorem dX8_washable_126 : decode cX8_washable 126 = .ok (.iload_n 3, 1) := by decide +kernel
theorem dX8_washable_127 : decode cX8_washable 127 = .ok (.ireturn, 1) := by decide +kernel
