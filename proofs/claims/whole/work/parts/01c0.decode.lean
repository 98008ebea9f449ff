theorem dX0_init_0 : decode cX0_init 0 = .ok (.aload_n 0, 1) := by decide +kernel
theorem dX0_init_1 : decode cX0_init 1 = .ok (.invokespecial 3, 3) := by decide +kernel
theorem dX0_init_4 : decode cX0_init 4 = .ok (.aload_n 0, 1) := by decide +kernel
theorem dX0_init_5 : decode cX0_init 5 = .ok (.iconst 4, 1) := by decide +kernel
theorem dX0_init_6 : decode cX0_init 6 = .ok (.newarray .int, 2) := by decide +kernel
theorem dX0_init_8 : decode cX0_init 8 = .ok (.putfield 9, 3) := by decide +kernel
theorem dX0_init_11 : decode cX0_init 11 = .ok (.aload_n 0, 1) := by decide +kernel
theorem dX0_init_12 : decode cX0_init 12 = .ok (.iconst 3, 1) := by decide +kernel
theorem dX0_init_13 : decode cX0_init 13 = .ok (.iconst 3, 1) := by decide +kernel
theorem dX0_init_14 : decode cX0_init 14 = .ok (.multianewarray 15 2, 4) := by decide +kernel
theorem dX0_init_18 : decode cX0_init 18 = .ok (.putfield 17, 3) := by decide +kernel
theorem dX0_init_21 : decode cX0_init 21 = .ok (.aload_n 0, 1) := by decide +kernel
theorem dX0_init_22 : decode cX0_init 22 = .ok (.iconst 3, 1) := by decide +kernel
theorem dX0_init_23 : decode cX0_init 23 = .ok (.newarray .long, 2) := by decide +kernel
theorem dX0_init_25 : decode cX0_init 25 = .ok (.putfield 20, 3) := by decide +kernel
theorem dX0_init_28 : decode cX0_init 28 = .ok (.aload_n 0, 1) := by decide +kernel
theorem dX0_init_29 : decode cX0_init 29 = .ok (.iconst 3, 1) := by decide +kernel
theorem dX0_init_30 : decode cX0_init 30 = .ok (.newarray .int, 2) := by decide +kernel
theorem dX0_init_32 : decode cX0_init 32 = .ok (.putfield 24, 3) := by decide +kernel
theorem dX0_init_35 : decode cX0_init 35 = .ok (.return_, 1) := by decide +kernel
theorem dX0_bringTogether_0 : decode cX0_bringTogether 0 = .ok (.aload_n 0, 1) := by decide +kernel
theorem dX0_bringTogether_1 : decode cX0_bringTogether 1 = .ok (.aload_n 1, 1) := by decide +kernel
theorem dX0_bringTogether_2 : decode cX0_bringTogether 2 = .ok (.invokevirtual 27, 3) := by decide +kernel
theorem dX0_bringTogether_5 : decode cX0_bringTogether 5 = .ok (.aload_n 0, 1) := by decide +kernel
theorem dX0_bringTogether_6 : decode cX0_bringTogether 6 = .ok (.getfield 9, 3) := by decide +kernel
theorem dX0_bringTogether_9 : decode cX0_bringTogether 9 = .ok (.iconst 0, 1) := by decide +kernel
theorem dX0_bringTogether_10 : decode cX0_bringTogether 10 = .ok (.iaload, 1) := by decide +kernel
theorem dX0_bringTogether_11 : decode cX0_bringTogether 11 = .ok (.ifCond .ne 6, 3) := by decide +kernel
theorem dX0_bringTogether_14 : decode cX0_bringTogether 14 = .ok (.bipush (-2), 2) := by decide +kernel
theorem dX0_bringTogether_16 : decode cX0_bringTogether 16 = .ok (.ireturn, 1) := by decide +kernel
theorem dX0_bringTogether_17 : decode cX0_bringTogether 17 = .ok (.aload_n 0, 1) := by decide +kernel
theorem dX0_bringTogether_18 : decode cX0_bringTogether 18 = .ok (.aload_n 1, 1) := by decide +kernel
theorem dX0_bringTogether_19 : decode cX0_bringTogether 19 = .ok (.invokevirtual 31, 3) := by decide +kernel
theorem dX0_bringTogether_22 : decode cX0_bringTogether 22 = .ok (.aload_n 0, 1) := by decide +kernel
theorem dX0_bringTogether_23 : decode cX0_bringTogether 23 = .ok (.invokevirtual 34, 3) := by decide +kernel
theorem dX0_bringTogether_26 : decode cX0_bringTogether 26 = .ok (.ifCond .ne 6, 3) := by decide +kernel
theorem dX0_bringTogether_29 : decode cX0_bringTogether 29 = .ok (.bipush (-2), 2) := by decide +kernel
theorem dX0_bringTogether_31 : decode cX0_bringTogether 31 = .ok (.ireturn, 1) := by decide +kernel
theorem dX0_bringTogether_32 : decode cX0_bringTogether 32 = .ok (.aload_n 1, 1) := by decide +kernel
theorem dX0_bringTogether_33 : decode cX0_bringTogether 33 = .ok (.getfield 38, 3) := by decide +kernel
theorem dX0_bringTogether_36 : decode cX0_bringTogether 36 = .ok (.iconst 0, 1) := by decide +kernel
theorem dX0_bringTogether_37 : decode cX0_bringTogether 37 = .ok (.iconst 0, 1) := by decide +kernel
theorem dX0_bringTogether_38 : decode cX0_bringTogether 38 = .ok (.iastore, 1) := by decide +kernel
theorem dX0_bringTogether_39 : decode cX0_bringTogether 39 = .ok (.iconst 0, 1) := by decide +kernel
theorem dX0_bringTogether_40 : decode cX0_bringTogether 40 = .ok (.istore_n 2, 1) := by decide +kernel
theorem dX0_bringTogether_41 : decode cX0_bringTogether 41 = .ok (.iload_n 2, 1) := by decide +kernel
theorem dX0_bringTogether_42 : decode cX0_bringTogether 42 = .ok (.iconst 3, 1) := by decide +kernel
theorem dX0_bringTogether_43 : decode cX0_bringTogether 43 = .ok (.if_icmp .ge 23, 3) := by decide +kernel
theorem dX0_bringTogether_46 : decode cX0_bringTogether 46 = .ok (.aload_n 1, 1) := by decide +kernel
theorem dX0_bringTogether_47 : decode cX0_bringTogether 47 = .ok (.getfield 38, 3) := by decide +kernel
theorem dX0_bringTogether_50 : decode cX0_bringTogether 50 = .ok (.iload_n 2, 1) := by decide +kernel
theorem dX0_bringTogether_51 : decode cX0_bringTogether 51 = .ok (.iconst 1, 1) := by decide +kernel
theorem dX0_bringTogether_52 : decode cX0_bringTogether 52 = .ok (.iadd, 1) := by decide +kernel
theorem dX0_bringTogether_53 : decode cX0_bringTogether 53 = .ok (.aload_n 0, 1) := by decide +kernel
theorem dX0_bringTogether_54 : decode cX0_bringTogether 54 = .ok (.getfield 24, 3) := by decide +kernel
theorem dX0_bringTogether_57 : decode cX0_bringTogether 57 = .ok (.iload_n 2, 1) := by decide +kernel
theorem dX0_bringTogether_58 : decode cX0_bringTogether 58 = .ok (.iaload, 1) := by decide +kernel
theorem dX0_bringTogether_59 : decode cX0_bringTogether 59 = .ok (.iastore, 1) := by decide +kernel
theorem dX0_bringTogether_60 : decode cX0_bringTogether 60 = .ok (.iinc 2 1, 3) := by decide +kernel
theorem dX0_bringTogether_63 : decode cX0_bringTogether 63 = .ok (.goto (-22), 3) := by decide +kernel
theorem dX0_bringTogether_66 : decode cX0_bringTogether 66 = .ok (.iconst 1, 1) := by decide +kernel
theorem dX0_bringTogether_67 : decode cX0_bringTogether 67 = .ok (.ireturn, 1) := by decide +kernel
theorem dX0_countPoints_0 : decode cX0_countPoints 0 = .ok (.aload_n 0, 1) := by decide +kernel
theorem dX0_countPoints_1 : decode cX0_countPoints 1 = .ok (.getfield 9, 3) := by decide +kernel
theorem dX0_countPoints_4 : decode cX0_countPoints 4 = .ok (.iconst 0, 1) := by decide +kernel
theorem dX0_countPoints_5 : decode cX0_countPoints 5 = .ok (.invokestatic 43, 3) := by decide +kernel
theorem dX0_countPoints_8 : decode cX0_countPoints 8 = .ok (.iconst 0, 1) := by decide +kernel
theorem dX0_countPoints_9 : decode cX0_countPoints 9 = .ok (.istore_n 2, 1) := by decide +kernel
theorem dX0_countPoints_10 : decode cX0_countPoints 10 = .ok (.iload_n 2, 1) := by decide +kernel
theorem dX0_countPoints_11 : decode cX0_countPoints 11 = .ok (.aload_n 1, 1) := by decide +kernel
theorem dX0_countPoints_12 : decode cX0_countPoints 12 = .ok (.getfield 49, 3) := by decide +kernel
theorem dX0_countPoints_15 : decode cX0_countPoints 15 = .ok (.if_icmp .ge 24, 3) := by decide +kernel
theorem dX0_countPoints_18 : decode cX0_countPoints 18 = .ok (.aload_n 0, 1) := by decide +kernel
theorem dX0_countPoints_19 : decode cX0_countPoints 19 = .ok (.getfield 9, 3) := by decide +kernel
theorem dX0_countPoints_22 : decode cX0_countPoints 22 = .ok (.aload_n 1, 1) := by decide +kernel
theorem dX0_countPoints_23 : decode cX0_countPoints 23 = .ok (.getfield 53, 3) := by decide +kernel
theorem dX0_countPoints_26 : decode cX0_countPoints 26 = .ok (.iload_n 2, 1) := by decide +kernel
theorem dX0_countPoints_27 : decode cX0_countPoints 27 = .ok (.iaload, 1) := by decide +kernel
theorem dX0_countPoints_28 : decode cX0_countPoints 28 = .ok (.dup2, 1) := by decide +kernel
theorem dX0_countPoints_29 : decode cX0_countPoints 29 = .ok (.iaload, 1) := by decide +kernel
theorem dX0_countPoints_30 : decode cX0_countPoints 30 = .ok (.iconst 1, 1) := by decide +kernel
theorem dX0_countPoints_31 : decode cX0_countPoints 31 = .ok (.iadd, 1) := by decide +kernel
theorem dX0_countPoints_32 : decode cX0_countPoints 32 = .ok (.iastore, 1) := by decide +kernel
theorem dX0_countPoints_33 : decode cX0_countPoints 33 = .ok (.iinc 2 1, 3) := by decide +kernel
theorem dX0_countPoints_36 : decode cX0_countPoints 36 = .ok (.goto (-26), 3) := by decide +kernel
theorem dX0_countPoints_39 : decode cX0_countPoints 39 = .ok (.return_, 1) := by decide +kernel
theorem dX0_setEquations_0 : decode cX0_setEquations 0 = .ok (.iconst 0, 1) := by decide +kernel
theorem dX0_setEquations_1 : decode cX0_setEquations 1 = .ok (.istore_n 2, 1) := by decide +kernel
theorem dX0_setEquations_2 : decode cX0_setEquations 2 = .ok (.iload_n 2, 1) := by decide +kernel
theorem dX0_setEquations_3 : decode cX0_setEquations 3 = .ok (.iconst 3, 1) := by decide +kernel
theorem dX0_setEquations_4 : decode cX0_setEquations 4 = .ok (.if_icmp .ge 46, 3) := by decide +kernel
theorem dX0_setEquations_7 : decode cX0_setEquations 7 = .ok (.aload_n 0, 1) := by decide +kernel
theorem dX0_setEquations_8 : decode cX0_setEquations 8 = .ok (.getfield 17, 3) := by decide +kernel
theorem dX0_setEquations_11 : decode cX0_setEquations 11 = .ok (.iload_n 2, 1) := by decide +kernel
theorem dX0_setEquations_12 : decode cX0_setEquations 12 = .ok (.aaload, 1) := by decide +kernel
theorem dX0_setEquations_13 : decode cX0_setEquations 13 = .ok (.lconst 0, 1) := by decide +kernel
theorem dX0_setEquations_14 : decode cX0_setEquations 14 = .ok (.invokestatic 56, 3) := by decide +kernel
theorem dX0_setEquations_17 : decode cX0_setEquations 17 = .ok (.aload_n 0, 1) := by decide +kernel
theorem dX0_setEquations_18 : decode cX0_setEquations 18 = .ok (.getfield 20, 3) := by decide +kernel
theorem dX0_setEquations_21 : decode cX0_setEquations 21 = .ok (.iload_n 2, 1) := by decide +kernel
theorem dX0_setEquations_22 : decode cX0_setEquations 22 = .ok (.lconst 0, 1) := by decide +kernel
theorem dX0_setEquations_23 : decode cX0_setEquations 23 = .ok (.lastore, 1) := by decide +kernel
theorem dX0_setEquations_24 : decode cX0_setEquations 24 = .ok (.aload_n 0, 1) := by decide +kernel
theorem dX0_setEquations_25 : decode cX0_setEquations 25 = .ok (.getfield 9, 3) := by decide +kernel
theorem dX0_setEquations_28 : decode cX0_setEquations 28 = .ok (.iload_n 2, 1) := by decide +kernel
theorem dX0_setEquations_29 : decode cX0_setEquations 29 = .ok (.iconst 1, 1) := by decide +kernel
theorem dX0_setEquations_30 : decode cX0_setEquations 30 = .ok (.iadd, 1) := by decide +kernel
theorem dX0_setEquations_31 : decode cX0_setEquations 31 = .ok (.iaload, 1) := by decide +kernel
theorem dX0_setEquations_32 : decode cX0_setEquations 32 = .ok (.ifCond .ne 12, 3) := by decide +kernel
theorem dX0_setEquations_35 : decode cX0_setEquations 35 = .ok (.aload_n 0, 1) := by decide +kernel
theorem dX0_setEquations_36 : decode cX0_setEquations 36 = .ok (.getfield 17, 3) := by decide +kernel
theorem dX0_setEquations_39 : decode cX0_setEquations 39 = .ok (.iload_n 2, 1) := by decide +kernel
theorem dX0_setEquations_40 : decode cX0_setEquations 40 = .ok (.aaload, 1) := by decide +kernel
theorem dX0_setEquations_41 : decode cX0_setEquations 41 = .ok (.iload_n 2, 1) := by decide +kernel
theorem dX0_setEquations_42 : decode cX0_setEquations 42 = .ok (.lconst 1, 1) := by decide +kernel
theorem dX0_setEquations_43 : decode cX0_setEquations 43 = .ok (.lastore, 1) := by decide +kernel
theorem dX0_setEquations_44 : decode cX0_setEquations 44 = .ok (.iinc 2 1, 3) := by decide +kernel
theorem dX0_setEquations_47 : decode cX0_setEquations 47 = .ok (.goto (-45), 3) := by decide +kernel
theorem dX0_setEquations_50 : decode cX0_setEquations 50 = .ok (.iconst 0, 1) := by decide +kernel
theorem dX0_setEquations_51 : decode cX0_setEquations 51 = .ok (.istore_n 2, 1) := by decide +kernel
theorem dX0_setEquations_52 : decode cX0_setEquations 52 = .ok (.iload_n 2, 1) := by decide +kernel
theorem dX0_setEquations_53 : decode cX0_setEquations 53 = .ok (.aload_n 1, 1) := by decide +kernel
theorem dX0_setEquations_54 : decode cX0_setEquations 54 = .ok (.getfield 49, 3) := by decide +kernel
theorem dX0_setEquations_57 : decode cX0_setEquations 57 = .ok (.if_icmp .ge 67, 3) := by decide +kernel
theorem dX0_setEquations_60 : decode cX0_setEquations 60 = .ok (.iconst 0, 1) := by decide +kernel
theorem dX0_setEquations_61 : decode cX0_setEquations 61 = .ok (.istore_n 3, 1) := by decide +kernel
theorem dX0_setEquations_62 : decode cX0_setEquations 62 = .ok (.iload_n 3, 1) := by decide +kernel
theorem dX0_setEquations_63 : decode cX0_setEquations 63 = .ok (.aload_n 1, 1) := by decide +kernel
theorem dX0_setEquations_64 : decode cX0_setEquations 64 = .ok (.getfield 49, 3) := by decide +kernel
theorem dX0_setEquations_67 : decode cX0_setEquations 67 = .ok (.if_icmp .ge 51, 3) := by decide +kernel
theorem dX0_setEquations_70 : decode cX0_setEquations 70 = .ok (.aload_n 1, 1) := by decide +kernel
theorem dX0_setEquations_71 : decode cX0_setEquations 71 = .ok (.iload_n 2, 1) := by decide +kernel
theorem dX0_setEquations_72 : decode cX0_setEquations 72 = .ok (.iload_n 3, 1) := by decide +kernel
theorem dX0_setEquations_73 : decode cX0_setEquations 73 = .ok (.invokevirtual 59, 3) := by decide +kernel
theorem dX0_setEquations_76 : decode cX0_setEquations 76 = .ok (.ifCond .eq 36, 3) := by decide +kernel
theorem dX0_setEquations_79 : decode cX0_setEquations 79 = .ok (.aload_n 0, 1) := by decide +kernel
theorem dX0_setEquations_80 : decode cX0_setEquations 80 = .ok (.aload_n 1, 1) := by decide +kernel
theorem dX0_setEquations_81 : decode cX0_setEquations 81 = .ok (.getfield 53, 3) := by decide +kernel
theorem dX0_setEquations_84 : decode cX0_setEquations 84 = .ok (.iload_n 2, 1) := by decide +kernel
theorem dX0_setEquations_85 : decode cX0_setEquations 85 = .ok (.iaload, 1) := by decide +kernel
theorem dX0_setEquations_86 : decode cX0_setEquations 86 = .ok (.iconst 1, 1) := by decide +kernel
theorem dX0_setEquations_87 : decode cX0_setEquations 87 = .ok (.isub, 1) := by decide +kernel
theorem dX0_setEquations_88 : decode cX0_setEquations 88 = .ok (.aload_n 1, 1) := by decide +kernel
theorem dX0_setEquations_89 : decode cX0_setEquations 89 = .ok (.getfield 53, 3) := by decide +kernel
theorem dX0_setEquations_92 : decode cX0_setEquations 92 = .ok (.iload_n 3, 1) := by decide +kernel
theorem dX0_setEquations_93 : decode cX0_setEquations 93 = .ok (.iaload, 1) := by decide +kernel
theorem dX0_setEquations_94 : decode cX0_setEquations 94 = .ok (.iconst 1, 1) := by decide +kernel
theorem dX0_setEquations_95 : decode cX0_setEquations 95 = .ok (.isub, 1) := by decide +kernel
theorem dX0_setEquations_96 : decode cX0_setEquations 96 = .ok (.aload_n 1, 1) := by decide +kernel
theorem dX0_setEquations_97 : decode cX0_setEquations 97 = .ok (.getfield 63, 3) := by decide +kernel
theorem dX0_setEquations_100 : decode cX0_setEquations 100 = .ok (.iload_n 3, 1) := by decide +kernel
theorem dX0_setEquations_101 : decode cX0_setEquations 101 = .ok (.iaload, 1) := by decide +kernel
theorem dX0_setEquations_102 : decode cX0_setEquations 102 = .ok (.aload_n 1, 1) := by decide +kernel
theorem dX0_setEquations_103 : decode cX0_setEquations 103 = .ok (.getfield 63, 3) := by decide +kernel
theorem dX0_setEquations_106 : decode cX0_setEquations 106 = .ok (.iload_n 2, 1) := by decide +kernel
theorem dX0_setEquations_107 : decode cX0_setEquations 107 = .ok (.iaload, 1) := by decide +kernel
theorem dX0_setEquations_108 : decode cX0_setEquations 108 = .ok (.isub, 1) := by decide +kernel
theorem dX0_setEquations_109 : decode cX0_setEquations 109 = .ok (.invokevirtual 66, 3) := by decide +kernel
theorem dX0_setEquations_112 : decode cX0_setEquations 112 = .ok (.iinc 3 1, 3) := by decide +kernel
theorem dX0_setEquations_115 : decode cX0_setEquations 115 = .ok (.goto (-53), 3) := by decide +kernel
theorem dX0_setEquations_118 : decode cX0_setEquations 118 = .ok (.iinc 2 1, 3) := by decide +kernel
theorem dX0_setEquations_121 : decode cX0_setEquations 121 = .ok (.goto (-69), 3) := by decide +kernel
theorem dX0_setEquations_124 : decode cX0_setEquations 124 = .ok (.return_, 1) := by decide +kernel
theorem dX0_addPair_0 : decode cX0_addPair 0 = .ok (.iload_n 1, 1) := by decide +kernel
theorem dX0_addPair_1 : decode cX0_addPair 1 = .ok (.ifCond .ge 4, 3) := by decide +kernel
theorem dX0_addPair_4 : decode cX0_addPair 4 = .ok (.return_, 1) := by decide +kernel
theorem dX0_addPair_5 : decode cX0_addPair 5 = .ok (.aload_n 0, 1) := by decide +kernel
theorem dX0_addPair_6 : decode cX0_addPair 6 = .ok (.getfield 17, 3) := by decide +kernel
theorem dX0_addPair_9 : decode cX0_addPair 9 = .ok (.iload_n 1, 1) := by decide +kernel
theorem dX0_addPair_10 : decode cX0_addPair 10 = .ok (.aaload, 1) := by decide +kernel
theorem dX0_addPair_11 : decode cX0_addPair 11 = .ok (.iload_n 1, 1) := by decide +kernel
theorem dX0_addPair_12 : decode cX0_addPair 12 = .ok (.dup2, 1) := by decide +kernel
theorem dX0_addPair_13 : decode cX0_addPair 13 = .ok (.laload, 1) := by decide +kernel
theorem dX0_addPair_14 : decode cX0_addPair 14 = .ok (.lconst 1, 1) := by decide +kernel
theorem dX0_addPair_15 : decode cX0_addPair 15 = .ok (.ladd, 1) := by decide +kernel
theorem dX0_addPair_16 : decode cX0_addPair 16 = .ok (.lastore, 1) := by decide +kernel
theorem dX0_addPair_17 : decode cX0_addPair 17 = .ok (.aload_n 0, 1) := by decide +kernel
theorem dX0_addPair_18 : decode cX0_addPair 18 = .ok (.getfield 20, 3) := by decide +kernel
theorem dX0_addPair_21 : decode cX0_addPair 21 = .ok (.iload_n 1, 1) := by decide +kernel
theorem dX0_addPair_22 : decode cX0_addPair 22 = .ok (.dup2, 1) := by decide +kernel
theorem dX0_addPair_23 : decode cX0_addPair 23 = .ok (.laload, 1) := by decide +kernel
theorem dX0_addPair_24 : decode cX0_addPair 24 = .ok (.iload_n 3, 1) := by decide +kernel
theorem dX0_addPair_25 : decode cX0_addPair 25 = .ok (.i2l, 1) := by decide +kernel
theorem dX0_addPair_26 : decode cX0_addPair 26 = .ok (.ladd, 1) := by decide +kernel
theorem dX0_addPair_27 : decode cX0_addPair 27 = .ok (.lastore, 1) := by decide +kernel
theorem dX0_addPair_28 : decode cX0_addPair 28 = .ok (.iload_n 2, 1) := by decide +kernel
theorem dX0_addPair_29 : decode cX0_addPair 29 = .ok (.ifCond .lt 15, 3) := by decide +kernel
theorem dX0_addPair_32 : decode cX0_addPair 32 = .ok (.aload_n 0, 1) := by decide +kernel
theorem dX0_addPair_33 : decode cX0_addPair 33 = .ok (.getfield 17, 3) := by decide +kernel
theorem dX0_addPair_36 : decode cX0_addPair 36 = .ok (.iload_n 1, 1) := by decide +kernel
theorem dX0_addPair_37 : decode cX0_addPair 37 = .ok (.aaload, 1) := by decide +kernel
theorem dX0_addPair_38 : decode cX0_addPair 38 = .ok (.iload_n 2, 1) := by decide +kernel
theorem dX0_addPair_39 : decode cX0_addPair 39 = .ok (.dup2, 1) := by decide +kernel
theorem dX0_addPair_40 : decode cX0_addPair 40 = .ok (.laload, 1) := by decide +kernel
theorem dX0_addPair_41 : decode cX0_addPair 41 = .ok (.lconst 1, 1) := by decide +kernel
theorem dX0_addPair_42 : decode cX0_addPair 42 = .ok (.lsub, 1) := by decide +kernel
theorem dX0_addPair_43 : decode cX0_addPair 43 = .ok (.lastore, 1) := by decide +kernel
theorem dX0_addPair_44 : decode cX0_addPair 44 = .ok (.return_, 1) := by decide +kernel
theorem dX0_solve_0 : decode cX0_solve 0 = .ok (.aload_n 0, 1) := by decide +kernel
theorem dX0_solve_1 : decode cX0_solve 1 = .ok (.invokevirtual 70, 3) := by decide +kernel
theorem dX0_solve_4 : decode cX0_solve 4 = .ok (.lstore_n 1, 1) := by decide +kernel
theorem dX0_solve_5 : decode cX0_solve 5 = .ok (.lload_n 1, 1) := by decide +kernel
theorem dX0_solve_6 : decode cX0_solve 6 = .ok (.lconst 0, 1) := by decide +kernel
theorem dX0_solve_7 : decode cX0_solve 7 = .ok (.lcmp, 1) := by decide +kernel
theorem dX0_solve_8 : decode cX0_solve 8 = .ok (.ifCond .gt 5, 3) := by decide +kernel
theorem dX0_solve_11 : decode cX0_solve 11 = .ok (.iconst 0, 1) := by decide +kernel
theorem dX0_solve_12 : decode cX0_solve 12 = .ok (.ireturn, 1) := by decide +kernel
theorem dX0_solve_13 : decode cX0_solve 13 = .ok (.iconst 0, 1) := by decide +kernel
theorem dX0_solve_14 : decode cX0_solve 14 = .ok (.istore_n 3, 1) := by decide +kernel
theorem dX0_solve_15 : decode cX0_solve 15 = .ok (.iload_n 3, 1) := by decide +kernel
theorem dX0_solve_16 : decode cX0_solve 16 = .ok (.iconst 3, 1) := by decide +kernel
theorem dX0_solve_17 : decode cX0_solve 17 = .ok (.if_icmp .ge 72, 3) := by decide +kernel
theorem dX0_solve_20 : decode cX0_solve 20 = .ok (.aload_n 0, 1) := by decide +kernel
theorem dX0_solve_21 : decode cX0_solve 21 = .ok (.iload_n 3, 1) := by decide +kernel
theorem dX0_solve_22 : decode cX0_solve 22 = .ok (.invokevirtual 74, 3) := by decide +kernel
theorem dX0_solve_25 : decode cX0_solve 25 = .ok (.aload_n 0, 1) := by decide +kernel
theorem dX0_solve_26 : decode cX0_solve 26 = .ok (.invokevirtual 70, 3) := by decide +kernel
theorem dX0_solve_29 : decode cX0_solve 29 = .ok (.lstore 4, 2) := by decide +kernel
theorem dX0_solve_31 : decode cX0_solve 31 = .ok (.aload_n 0, 1) := by decide +kernel
theorem dX0_solve_32 : decode cX0_solve 32 = .ok (.iload_n 3, 1) := by decide +kernel
theorem dX0_solve_33 : decode cX0_solve 33 = .ok (.invokevirtual 74, 3) := by decide +kernel
theorem dX0_solve_36 : decode cX0_solve 36 = .ok (.ldc2_w 78, 3) := by decide +kernel
theorem dX0_solve_39 : decode cX0_solve 39 = .ok (.lload 4, 2) := by decide +kernel
theorem dX0_solve_41 : decode cX0_solve 41 = .ok (.lmul, 1) := by decide +kernel
theorem dX0_solve_42 : decode cX0_solve 42 = .ok (.lload_n 1, 1) := by decide +kernel
theorem dX0_solve_43 : decode cX0_solve 43 = .ok (.ladd, 1) := by decide +kernel
theorem dX0_solve_44 : decode cX0_solve 44 = .ok (.ldc2_w 78, 3) := by decide +kernel
theorem dX0_solve_47 : decode cX0_solve 47 = .ok (.lload_n 1, 1) := by decide +kernel
theorem dX0_solve_48 : decode cX0_solve 48 = .ok (.lmul, 1) := by decide +kernel
theorem dX0_solve_49 : decode cX0_solve 49 = .ok (.invokestatic 80, 3) := by decide +kernel
theorem dX0_solve_52 : decode cX0_solve 52 = .ok (.lstore 6, 2) := by decide +kernel
theorem dX0_solve_54 : decode cX0_solve 54 = .ok (.lload 6, 2) := by decide +kernel
theorem dX0_solve_56 : decode cX0_solve 56 = .ok (.ldc2_w 86, 3) := by decide +kernel
theorem dX0_solve_59 : decode cX0_solve 59 = .ok (.lcmp, 1) := by decide +kernel
theorem dX0_solve_60 : decode cX0_solve 60 = .ok (.ifCond .lt 12, 3) := by decide +kernel
theorem dX0_solve_63 : decode cX0_solve 63 = .ok (.lload 6, 2) := by decide +kernel
theorem dX0_solve_65 : decode cX0_solve 65 = .ok (.ldc2_w 88, 3) := by decide +kernel
theorem dX0_solve_68 : decode cX0_solve 68 = .ok (.lcmp, 1) := by decide +kernel
theorem dX0_solve_69 : decode cX0_solve 69 = .ok (.ifCond .le 5, 3) := by decide +kernel
theorem dX0_solve_72 : decode cX0_solve 72 = .ok (.iconst 0, 1) := by decide +kernel
theorem dX0_solve_73 : decode cX0_solve 73 = .ok (.ireturn, 1) := by decide +kernel
theorem dX0_solve_74 : decode cX0_solve 74 = .ok (.aload_n 0, 1) := by decide +kernel
theorem dX0_solve_75 : decode cX0_solve 75 = .ok (.getfield 24, 3) := by decide +kernel
theorem dX0_solve_78 : decode cX0_solve 78 = .ok (.iload_n 3, 1) := by decide +kernel
theorem dX0_solve_79 : decode cX0_solve 79 = .ok (.lload 6, 2) := by decide +kernel
theorem dX0_solve_81 : decode cX0_solve 81 = .ok (.l2i, 1) := by decide +kernel
theorem dX0_solve_82 : decode cX0_solve 82 = .ok (.iastore, 1) := by decide +kernel
theorem dX0_solve_83 : decode cX0_solve 83 = .ok (.iinc 3 1, 3) := by decide +kernel
theorem dX0_solve_86 : decode cX0_solve 86 = .ok (.goto (-71), 3) := by decide +kernel
theorem dX0_solve_89 : decode cX0_solve 89 = .ok (.iconst 1, 1) := by decide +kernel
theorem dX0_solve_90 : decode cX0_solve 90 = .ok (.ireturn, 1) := by decide +kernel
theorem dX0_swapColumn_0 : decode cX0_swapColumn 0 = .ok (.iconst 0, 1) := by decide +kernel
theorem dX0_swapColumn_1 : decode cX0_swapColumn 1 = .ok (.istore_n 2, 1) := by decide +kernel
theorem dX0_swapColumn_2 : decode cX0_swapColumn 2 = .ok (.iload_n 2, 1) := by decide +kernel
theorem dX0_swapColumn_3 : decode cX0_swapColumn 3 = .ok (.iconst 3, 1) := by decide +kernel
theorem dX0_swapColumn_4 : decode cX0_swapColumn 4 = .ok (.if_icmp .ge 39, 3) := by decide +kernel
theorem dX0_swapColumn_7 : decode cX0_swapColumn 7 = .ok (.aload_n 0, 1) := by decide +kernel
theorem dX0_swapColumn_8 : decode cX0_swapColumn 8 = .ok (.getfield 17, 3) := by decide +kernel
theorem dX0_swapColumn_11 : decode cX0_swapColumn 11 = .ok (.iload_n 2, 1) := by decide +kernel
theorem dX0_swapColumn_12 : decode cX0_swapColumn 12 = .ok (.aaload, 1) := by decide +kernel
theorem dX0_swapColumn_13 : decode cX0_swapColumn 13 = .ok (.iload_n 1, 1) := by decide +kernel
theorem dX0_swapColumn_14 : decode cX0_swapColumn 14 = .ok (.laload, 1) := by decide +kernel
theorem dX0_swapColumn_15 : decode cX0_swapColumn 15 = .ok (.lstore_n 3, 1) := by decide +kernel
theorem dX0_swapColumn_16 : decode cX0_swapColumn 16 = .ok (.aload_n 0, 1) := by decide +kernel
theorem dX0_swapColumn_17 : decode cX0_swapColumn 17 = .ok (.getfield 17, 3) := by decide +kernel
theorem dX0_swapColumn_20 : decode cX0_swapColumn 20 = .ok (.iload_n 2, 1) := by decide +kernel
theorem dX0_swapColumn_21 : decode cX0_swapColumn 21 = .ok (.aaload, 1) := by decide +kernel
theorem dX0_swapColumn_22 : decode cX0_swapColumn 22 = .ok (.iload_n 1, 1) := by decide +kernel
theorem dX0_swapColumn_23 : decode cX0_swapColumn 23 = .ok (.aload_n 0, 1) := by decide +kernel
theorem dX0_swapColumn_24 : decode cX0_swapColumn 24 = .ok (.getfield 20, 3) := by decide +kernel
theorem dX0_swapColumn_27 : decode cX0_swapColumn 27 = .ok (.iload_n 2, 1) := by decide +kernel
theorem dX0_swapColumn_28 : decode cX0_swapColumn 28 = .ok (.laload, 1) := by decide +kernel
theorem dX0_swapColumn_29 : decode cX0_swapColumn 29 = .ok (.lastore, 1) := by decide +kernel
theorem dX0_swapColumn_30 : decode cX0_swapColumn 30 = .ok (.aload_n 0, 1) := by decide +kernel
theorem dX0_swapColumn_31 : decode cX0_swapColumn 31 = .ok (.getfield 20, 3) := by decide +kernel
theorem dX0_swapColumn_34 : decode cX0_swapColumn 34 = .ok (.iload_n 2, 1) := by decide +kernel
theorem dX0_swapColumn_35 : decode cX0_swapColumn 35 = .ok (.lload_n 3, 1) := by decide +kernel
theorem dX0_swapColumn_36 : decode cX0_swapColumn 36 = .ok (.lastore, 1) := by decide +kernel
theorem dX0_swapColumn_37 : decode cX0_swapColumn 37 = .ok (.iinc 2 1, 3) := by decide +kernel
theorem dX0_swapColumn_40 : decode cX0_swapColumn 40 = .ok (.goto (-38), 3) := by decide +kernel
theorem dX0_swapColumn_43 : decode cX0_swapColumn 43 = .ok (.return_, 1) := by decide +kernel
theorem dX0_determinant_0 : decode cX0_determinant 0 = .ok (.aload_n 0, 1) := by decide +kernel
theorem dX0_determinant_1 : decode cX0_determinant 1 = .ok (.getfield 17, 3) := by decide +kernel
theorem dX0_determinant_4 : decode cX0_determinant 4 = .ok (.iconst 0, 1) := by decide +kernel
theorem dX0_determinant_5 : decode cX0_determinant 5 = .ok (.aaload, 1) := by decide +kernel
theorem dX0_determinant_6 : decode cX0_determinant 6 = .ok (.iconst 0, 1) := by decide +kernel
theorem dX0_determinant_7 : decode cX0_determinant 7 = .ok (.laload, 1) := by decide +kernel
theorem dX0_determinant_8 : decode cX0_determinant 8 = .ok (.aload_n 0, 1) := by decide +kernel
theorem dX0_determinant_9 : decode cX0_determinant 9 = .ok (.iconst 1, 1) := by decide +kernel
theorem dX0_determinant_10 : decode cX0_determinant 10 = .ok (.iconst 2, 1) := by decide +kernel
theorem dX0_determinant_11 : decode cX0_determinant 11 = .ok (.invokevirtual 90, 3) := by decide +kernel
theorem dX0_determinant_14 : decode cX0_determinant 14 = .ok (.lmul, 1) := by decide +kernel
theorem dX0_determinant_15 : decode cX0_determinant 15 = .ok (.aload_n 0, 1) := by decide +kernel
theorem dX0_determinant_16 : decode cX0_determinant 16 = .ok (.getfield 17, 3) := by decide +kernel
theorem dX0_determinant_19 : decode cX0_determinant 19 = .ok (.iconst 0, 1) := by decide +kernel
theorem dX0_determinant_20 : decode cX0_determinant 20 = .ok (.aaload, 1) := by decide +kernel
theorem dX0_determinant_21 : decode cX0_determinant 21 = .ok (.iconst 1, 1) := by decide +kernel
theorem dX0_determinant_22 : decode cX0_determinant 22 = .ok (.laload, 1) := by decide +kernel
theorem dX0_determinant_23 : decode cX0_determinant 23 = .ok (.aload_n 0, 1) := by decide +kernel
theorem dX0_determinant_24 : decode cX0_determinant 24 = .ok (.iconst 0, 1) := by decide +kernel
theorem dX0_determinant_25 : decode cX0_determinant 25 = .ok (.iconst 2, 1) := by decide +kernel
theorem dX0_determinant_26 : decode cX0_determinant 26 = .ok (.invokevirtual 90, 3) := by decide +kernel
theorem dX0_determinant_29 : decode cX0_determinant 29 = .ok (.lmul, 1) := by decide +kernel
theorem dX0_determinant_30 : decode cX0_determinant 30 = .ok (.lsub, 1) := by decide +kernel
theorem dX0_determinant_31 : decode cX0_determinant 31 = .ok (.aload_n 0, 1) := by decide +kernel
theorem dX0_determinant_32 : decode cX0_determinant 32 = .ok (.getfield 17, 3) := by decide +kernel
theorem dX0_determinant_35 : decode cX0_determinant 35 = .ok (.iconst 0, 1) := by decide +kernel
theorem dX0_determinant_36 : decode cX0_determinant 36 = .ok (.aaload, 1) := by decide +kernel
theorem dX0_determinant_37 : decode cX0_determinant 37 = .ok (.iconst 2, 1) := by decide +kernel
theorem dX0_determinant_38 : decode cX0_determinant 38 = .ok (.laload, 1) := by decide +kernel
theorem dX0_determinant_39 : decode cX0_determinant 39 = .ok (.aload_n 0, 1) := by decide +kernel
theorem dX0_determinant_40 : decode cX0_determinant 40 = .ok (.iconst 0, 1) := by decide +kernel
theorem dX0_determinant_41 : decode cX0_determinant 41 = .ok (.iconst 1, 1) := by decide +kernel
theorem dX0_determinant_42 : decode cX0_determinant 42 = .ok (.invokevirtual 90, 3) := by decide +kernel
theorem dX0_determinant_45 : decode cX0_determinant 45 = .ok (.lmul, 1) := by decide +kernel
theorem dX0_determinant_46 : decode cX0_determinant 46 = .ok (.ladd, 1) := by decide +kernel
theorem dX0_determinant_47 : decode cX0_determinant 47 = .ok (.lreturn, 1) := by decide +kernel
theorem dX0_minor_0 : decode cX0_minor 0 = .ok (.aload_n 0, 1) := by decide +kernel
theorem dX0_minor_1 : decode cX0_minor 1 = .ok (.getfield 17, 3) := by decide +kernel
theorem dX0_minor_4 : decode cX0_minor 4 = .ok (.iconst 1, 1) := by decide +kernel
theorem dX0_minor_5 : decode cX0_minor 5 = .ok (.aaload, 1) := by decide +kernel
theorem dX0_minor_6 : decode cX0_minor 6 = .ok (.iload_n 1, 1) := by decide +kernel
theorem dX0_minor_7 : decode cX0_minor 7 = .ok (.laload, 1) := by decide +kernel
theorem dX0_minor_8 : decode cX0_minor 8 = .ok (.aload_n 0, 1) := by decide +kernel
theorem dX0_minor_9 : decode cX0_minor 9 = .ok (.getfield 17, 3) := by decide +kernel
theorem dX0_minor_12 : decode cX0_minor 12 = .ok (.iconst 2, 1) := by decide +kernel
theorem dX0_minor_13 : decode cX0_minor 13 = .ok (.aaload, 1) := by decide +kernel
theorem dX0_minor_14 : decode cX0_minor 14 = .ok (.iload_n 2, 1) := by decide +kernel
theorem dX0_minor_15 : decode cX0_minor 15 = .ok (.laload, 1) := by decide +kernel
theorem dX0_minor_16 : decode cX0_minor 16 = .ok (.lmul, 1) := by decide +kernel
theorem dX0_minor_17 : decode cX0_minor 17 = .ok (.aload_n 0, 1) := by decide +kernel
theorem dX0_minor_18 : decode cX0_minor 18 = .ok (.getfield 17, 3) := by decide +kernel
theorem dX0_minor_21 : decode cX0_minor 21 = .ok (.iconst 1, 1) := by decide +kernel
theorem dX0_minor_22 : decode cX0_minor 22 = .ok (.aaload, 1) := by decide +kernel
theorem dX0_minor_23 : decode cX0_minor 23 = .ok (.iload_n 2, 1) := by decide +kernel
theorem dX0_minor_24 : decode cX0_minor 24 = .ok (.laload, 1) := by decide +kernel
theorem dX0_minor_25 : decode cX0_minor 25 = .ok (.aload_n 0, 1) := by decide +kernel
theorem dX0_minor_26 : decode cX0_minor 26 = .ok (.getfield 17, 3) := by decide +kernel
theorem dX0_minor_29 : decode cX0_minor 29 = .ok (.iconst 2, 1) := by decide +kernel
theorem dX0_minor_30 : decode cX0_minor 30 = .ok (.aaload, 1) := by decide +kernel
theorem dX0_minor_31 : decode cX0_minor 31 = .ok (.iload_n 1, 1) := by decide +kernel
theorem dX0_minor_32 : decode cX0_minor 32 = .ok (.laload, 1) := by decide +kernel
theorem dX0_minor_33 : decode cX0_minor 33 = .ok (.lmul, 1) := by decide +kernel
theorem dX0_minor_34 : decode cX0_minor 34 = .ok (.lsub, 1) := by decide +kernel
theorem dX0_minor_35 : decode cX0_minor 35 = .ok (.lreturn, 1) := by decide +kernel
theorem dX1_init_0 : decode cX1_init 0 = .ok (.aload_n 0, 1) := by decide +kernel
theorem dX1_init_1 : decode cX1_init 1 = .ok (.invokespecial 3, 3) := by decide +kernel
theorem dX1_init_4 : decode cX1_init 4 = .ok (.aload_n 0, 1) := by decide +kernel
theorem dX1_init_5 : decode cX1_init 5 = .ok (.sipush 256, 3) := by decide +kernel
theorem dX1_init_8 : decode cX1_init 8 = .ok (.newarray .int, 2) := by decide +kernel
theorem dX1_init_10 : decode cX1_init 10 = .ok (.putfield 9, 3) := by decide +kernel
theorem dX1_init_13 : decode cX1_init 13 = .ok (.return_, 1) := by decide +kernel
theorem dX1_measure_0 : decode cX1_measure 0 = .ok (.aload_n 0, 1) := by decide +kernel
theorem dX1_measure_1 : decode cX1_measure 1 = .ok (.getfield 9, 3) := by decide +kernel
theorem dX1_measure_4 : decode cX1_measure 4 = .ok (.ldc 15, 2) := by decide +kernel
theorem dX1_measure_6 : decode cX1_measure 6 = .ok (.invokestatic 16, 3) := by decide +kernel
theorem dX1_measure_9 : decode cX1_measure 9 = .ok (.iconst 0, 1) := by decide +kernel
theorem dX1_measure_10 : decode cX1_measure 10 = .ok (.istore_n 2, 1) := by decide +kernel
theorem dX1_measure_11 : decode cX1_measure 11 = .ok (.iload_n 2, 1) := by decide +kernel
theorem dX1_measure_12 : decode cX1_measure 12 = .ok (.aload_n 1, 1) := by decide +kernel
theorem dX1_measure_13 : decode cX1_measure 13 = .ok (.getfield 22, 3) := by decide +kernel
theorem dX1_measure_16 : decode cX1_measure 16 = .ok (.if_icmp .ge 45, 3) := by decide +kernel
theorem dX1_measure_19 : decode cX1_measure 19 = .ok (.aload_n 1, 1) := by decide +kernel
theorem dX1_measure_20 : decode cX1_measure 20 = .ok (.getfield 28, 3) := by decide +kernel
theorem dX1_measure_23 : decode cX1_measure 23 = .ok (.iload_n 2, 1) := by decide +kernel
theorem dX1_measure_24 : decode cX1_measure 24 = .ok (.iaload, 1) := by decide +kernel
theorem dX1_measure_25 : decode cX1_measure 25 = .ok (.iconst 1, 1) := by decide +kernel
theorem dX1_measure_26 : decode cX1_measure 26 = .ok (.if_icmp .ne 29, 3) := by decide +kernel
theorem dX1_measure_29 : decode cX1_measure 29 = .ok (.aload_n 1, 1) := by decide +kernel
theorem dX1_measure_30 : decode cX1_measure 30 = .ok (.iload_n 2, 1) := by decide +kernel
theorem dX1_measure_31 : decode cX1_measure 31 = .ok (.invokevirtual 31, 3) := by decide +kernel
theorem dX1_measure_34 : decode cX1_measure 34 = .ok (.istore_n 3, 1) := by decide +kernel
theorem dX1_measure_35 : decode cX1_measure 35 = .ok (.aload_n 0, 1) := by decide +kernel
theorem dX1_measure_36 : decode cX1_measure 36 = .ok (.getfield 9, 3) := by decide +kernel
theorem dX1_measure_39 : decode cX1_measure 39 = .ok (.iload_n 3, 1) := by decide +kernel
theorem dX1_measure_40 : decode cX1_measure 40 = .ok (.aload_n 0, 1) := by decide +kernel
theorem dX1_measure_41 : decode cX1_measure 41 = .ok (.getfield 9, 3) := by decide +kernel
theorem dX1_measure_44 : decode cX1_measure 44 = .ok (.iload_n 3, 1) := by decide +kernel
theorem dX1_measure_45 : decode cX1_measure 45 = .ok (.iaload, 1) := by decide +kernel
theorem dX1_measure_46 : decode cX1_measure 46 = .ok (.aload_n 1, 1) := by decide +kernel
theorem dX1_measure_47 : decode cX1_measure 47 = .ok (.iload_n 2, 1) := by decide +kernel
theorem dX1_measure_48 : decode cX1_measure 48 = .ok (.invokevirtual 35, 3) := by decide +kernel
theorem dX1_measure_51 : decode cX1_measure 51 = .ok (.invokestatic 38, 3) := by decide +kernel
theorem dX1_measure_54 : decode cX1_measure 54 = .ok (.iastore, 1) := by decide +kernel
theorem dX1_measure_55 : decode cX1_measure 55 = .ok (.iinc 2 1, 3) := by decide +kernel
theorem dX1_measure_58 : decode cX1_measure 58 = .ok (.goto (-47), 3) := by decide +kernel
theorem dX1_measure_61 : decode cX1_measure 61 = .ok (.return_, 1) := by decide +kernel
theorem dX1_at_0 : decode cX1_at 0 = .ok (.aload_n 0, 1) := by decide +kernel
theorem dX1_at_1 : decode cX1_at 1 = .ok (.getfield 9, 3) := by decide +kernel
theorem dX1_at_4 : decode cX1_at 4 = .ok (.iload_n 1, 1) := by decide +kernel
theorem dX1_at_5 : decode cX1_at 5 = .ok (.bipush 16, 2) := by decide +kernel
theorem dX1_at_7 : decode cX1_at 7 = .ok (.iload_n 2, 1) := by decide +kernel
theorem dX1_at_8 : decode cX1_at 8 = .ok (.imul, 1) := by decide +kernel
theorem dX1_at_9 : decode cX1_at 9 = .ok (.iadd, 1) := by decide +kernel
theorem dX1_at_10 : decode cX1_at 10 = .ok (.iaload, 1) := by decide +kernel
theorem dX1_at_11 : decode cX1_at 11 = .ok (.ireturn, 1) := by decide +kernel
theorem dX1_isFilled_0 : decode cX1_isFilled 0 = .ok (.aload_n 0, 1) := by decide +kernel
theorem dX1_isFilled_1 : decode cX1_isFilled 1 = .ok (.getfield 9, 3) := by decide +kernel
theorem dX1_isFilled_4 : decode cX1_isFilled 4 = .ok (.iload_n 1, 1) := by decide +kernel
theorem dX1_isFilled_5 : decode cX1_isFilled 5 = .ok (.bipush 16, 2) := by decide +kernel
theorem dX1_isFilled_7 : decode cX1_isFilled 7 = .ok (.iload_n 2, 1) := by decide +kernel
theorem dX1_isFilled_8 : decode cX1_isFilled 8 = .ok (.imul, 1) := by decide +kernel
theorem dX1_isFilled_9 : decode cX1_isFilled 9 = .ok (.iadd, 1) := by decide +kernel
theorem dX1_isFilled_10 : decode cX1_isFilled 10 = .ok (.iaload, 1) := by decide +kernel
theorem dX1_isFilled_11 : decode cX1_isFilled 11 = .ok (.ldc 15, 2) := by decide +kernel
theorem dX1_isFilled_13 : decode cX1_isFilled 13 = .ok (.if_icmp .eq 7, 3) := by decide +kernel
theorem dX1_isFilled_16 : decode cX1_isFilled 16 = .ok (.iconst 1, 1) := by decide +kernel
theorem dX1_isFilled_17 : decode cX1_isFilled 17 = .ok (.goto 4, 3) := by decide +kernel
theorem dX1_isFilled_20 : decode cX1_isFilled 20 = .ok (.iconst 0, 1) := by decide +kernel
theorem dX1_isFilled_21 : decode cX1_isFilled 21 = .ok (.ireturn, 1) := by decide +kernel
theorem dX1_isQuad_0 : decode cX1_isQuad 0 = .ok (.iload_n 1, 1) := by decide +kernel
theorem dX1_isQuad_1 : decode cX1_isQuad 1 = .ok (.ifCond .lt 67, 3) := by decide +kernel
theorem dX1_isQuad_4 : decode cX1_isQuad 4 = .ok (.iload_n 1, 1) := by decide +kernel
theorem dX1_isQuad_5 : decode cX1_isQuad 5 = .ok (.bipush 15, 2) := by decide +kernel
theorem dX1_isQuad_7 : decode cX1_isQuad 7 = .ok (.if_icmp .ge 61, 3) := by decide +kernel
theorem dX1_isQuad_10 : decode cX1_isQuad 10 = .ok (.iload_n 2, 1) := by decide +kernel
theorem dX1_isQuad_11 : decode cX1_isQuad 11 = .ok (.ifCond .lt 57, 3) := by decide +kernel
theorem dX1_isQuad_14 : decode cX1_isQuad 14 = .ok (.iload_n 2, 1) := by decide +kernel
theorem dX1_isQuad_15 : decode cX1_isQuad 15 = .ok (.bipush 15, 2) := by decide +kernel
theorem dX1_isQuad_17 : decode cX1_isQuad 17 = .ok (.if_icmp .ge 51, 3) := by decide +kernel
theorem dX1_isQuad_20 : decode cX1_isQuad 20 = .ok (.aload_n 0, 1) := by decide +kernel
theorem dX1_isQuad_21 : decode cX1_isQuad 21 = .ok (.iload_n 1, 1) := by decide +kernel
theorem dX1_isQuad_22 : decode cX1_isQuad 22 = .ok (.iload_n 2, 1) := by decide +kernel
theorem dX1_isQuad_23 : decode cX1_isQuad 23 = .ok (.invokevirtual 44, 3) := by decide +kernel
theorem dX1_isQuad_26 : decode cX1_isQuad 26 = .ok (.ifCond .eq 42, 3) := by decide +kernel
theorem dX1_isQuad_29 : decode cX1_isQuad 29 = .ok (.aload_n 0, 1) := by decide +kernel
theorem dX1_isQuad_30 : decode cX1_isQuad 30 = .ok (.iload_n 1, 1) := by decide +kernel
theorem dX1_isQuad_31 : decode cX1_isQuad 31 = .ok (.iconst 1, 1) := by decide +kernel
theorem dX1_isQuad_32 : decode cX1_isQuad 32 = .ok (.iadd, 1) := by decide +kernel
theorem dX1_isQuad_33 : decode cX1_isQuad 33 = .ok (.iload_n 2, 1) := by decide +kernel
theorem dX1_isQuad_34 : decode cX1_isQuad 34 = .ok (.invokevirtual 44, 3) := by decide +kernel
theorem dX1_isQuad_37 : decode cX1_isQuad 37 = .ok (.ifCond .eq 31, 3) := by decide +kernel
theorem dX1_isQuad_40 : decode cX1_isQuad 40 = .ok (.aload_n 0, 1) := by decide +kernel
theorem dX1_isQuad_41 : decode cX1_isQuad 41 = .ok (.iload_n 1, 1) := by decide +kernel
theorem dX1_isQuad_42 : decode cX1_isQuad 42 = .ok (.iload_n 2, 1) := by decide +kernel
theorem dX1_isQuad_43 : decode cX1_isQuad 43 = .ok (.iconst 1, 1) := by decide +kernel
theorem dX1_isQuad_44 : decode cX1_isQuad 44 = .ok (.iadd, 1) := by decide +kernel
theorem dX1_isQuad_45 : decode cX1_isQuad 45 = .ok (.invokevirtual 44, 3) := by decide +kernel
theorem dX1_isQuad_48 : decode cX1_isQuad 48 = .ok (.ifCond .eq 20, 3) := by decide +kernel
theorem dX1_isQuad_51 : decode cX1_isQuad 51 = .ok (.aload_n 0, 1) := by decide +kernel
theorem dX1_isQuad_52 : decode cX1_isQuad 52 = .ok (.iload_n 1, 1) := by decide +kernel
theorem dX1_isQuad_53 : decode cX1_isQuad 53 = .ok (.iconst 1, 1) := by decide +kernel
theorem dX1_isQuad_54 : decode cX1_isQuad 54 = .ok (.iadd, 1) := by decide +kernel
theorem dX1_isQuad_55 : decode cX1_isQuad 55 = .ok (.iload_n 2, 1) := by decide +kernel
theorem dX1_isQuad_56 : decode cX1_isQuad 56 = .ok (.iconst 1, 1) := by decide +kernel
theorem dX1_isQuad_57 : decode cX1_isQuad 57 = .ok (.iadd, 1) := by decide +kernel
theorem dX1_isQuad_58 : decode cX1_isQuad 58 = .ok (.invokevirtual 44, 3) := by decide +kernel
theorem dX1_isQuad_61 : decode cX1_isQuad 61 = .ok (.ifCond .eq 7, 3) := by decide +kernel
theorem dX1_isQuad_64 : decode cX1_isQuad 64 = .ok (.iconst 1, 1) := by decide +kernel
theorem dX1_isQuad_65 : decode cX1_isQuad 65 = .ok (.goto 4, 3) := by decide +kernel
theorem dX1_isQuad_68 : decode cX1_isQuad 68 = .ok (.iconst 0, 1) := by decide +kernel
theorem dX1_isQuad_69 : decode cX1_isQuad 69 = .ok (.ireturn, 1) := by decide +kernel
theorem dX1_countFilled_0 : decode cX1_countFilled 0 = .ok (.iconst 0, 1) := by decide +kernel
theorem dX1_countFilled_1 : decode cX1_countFilled 1 = .ok (.istore_n 1, 1) := by decide +kernel
theorem dX1_countFilled_2 : decode cX1_countFilled 2 = .ok (.aload_n 0, 1) := by decide +kernel
theorem dX1_countFilled_3 : decode cX1_countFilled 3 = .ok (.getfield 9, 3) := by decide +kernel
theorem dX1_countFilled_6 : decode cX1_countFilled 6 = .ok (.astore_n 2, 1) := by decide +kernel
theorem dX1_countFilled_7 : decode cX1_countFilled 7 = .ok (.aload_n 2, 1) := by decide +kernel
theorem dX1_countFilled_8 : decode cX1_countFilled 8 = .ok (.arraylength, 1) := by decide +kernel
theorem dX1_countFilled_9 : decode cX1_countFilled 9 = .ok (.istore_n 3, 1) := by decide +kernel
theorem dX1_countFilled_10 : decode cX1_countFilled 10 = .ok (.iconst 0, 1) := by decide +kernel
theorem dX1_countFilled_11 : decode cX1_countFilled 11 = .ok (.istore 4, 2) := by decide +kernel
theorem dX1_countFilled_13 : decode cX1_countFilled 13 = .ok (.iload 4, 2) := by decide +kernel
theorem dX1_countFilled_15 : decode cX1_countFilled 15 = .ok (.iload_n 3, 1) := by decide +kernel
theorem dX1_countFilled_16 : decode cX1_countFilled 16 = .ok (.if_icmp .ge 25, 3) := by decide +kernel
theorem dX1_countFilled_19 : decode cX1_countFilled 19 = .ok (.aload_n 2, 1) := by decide +kernel
theorem dX1_countFilled_20 : decode cX1_countFilled 20 = .ok (.iload 4, 2) := by decide +kernel
theorem dX1_countFilled_22 : decode cX1_countFilled 22 = .ok (.iaload, 1) := by decide +kernel
theorem dX1_countFilled_23 : decode cX1_countFilled 23 = .ok (.istore 5, 2) := by decide +kernel
theorem dX1_countFilled_25 : decode cX1_countFilled 25 = .ok (.iload 5, 2) := by decide +kernel
theorem dX1_countFilled_27 : decode cX1_countFilled 27 = .ok (.ldc 15, 2) := by decide +kernel
theorem dX1_countFilled_29 : decode cX1_countFilled 29 = .ok (.if_icmp .eq 6, 3) := by decide +kernel
theorem dX1_countFilled_32 : decode cX1_countFilled 32 = .ok (.iinc 1 1, 3) := by decide +kernel
theorem dX1_countFilled_35 : decode cX1_countFilled 35 = .ok (.iinc 4 1, 3) := by decide +kernel
theorem dX1_countFilled_38 : decode cX1_countFilled 38 = .ok (.goto (-25), 3) := by decide +kernel
theorem dX1_countFilled_41 : decode cX1_countFilled 41 = .ok (.iload_n 1, 1) := by decide +kernel
theorem dX1_countFilled_42 : decode cX1_countFilled 42 = .ok (.ireturn, 1) := by decide +kernel
theorem dX1_countThirds_0 : decode cX1_countThirds 0 = .ok (.iconst 0, 1) := by decide +kernel
theorem dX1_countThirds_1 : decode cX1_countThirds 1 = .ok (.istore_n 1, 1) := by decide +kernel
theorem dX1_countThirds_2 : decode cX1_countThirds 2 = .ok (.iconst 0, 1) := by decide +kernel
theorem dX1_countThirds_3 : decode cX1_countThirds 3 = .ok (.istore_n 2, 1) := by decide +kernel
theorem dX1_countThirds_4 : decode cX1_countThirds 4 = .ok (.iload_n 2, 1) := by decide +kernel
theorem dX1_countThirds_5 : decode cX1_countThirds 5 = .ok (.bipush 15, 2) := by decide +kernel
theorem dX1_countThirds_7 : decode cX1_countThirds 7 = .ok (.if_icmp .ge 35, 3) := by decide +kernel
theorem dX1_countThirds_10 : decode cX1_countThirds 10 = .ok (.iconst 0, 1) := by decide +kernel
theorem dX1_countThirds_11 : decode cX1_countThirds 11 = .ok (.istore_n 3, 1) := by decide +kernel
theorem dX1_countThirds_12 : decode cX1_countThirds 12 = .ok (.iload_n 3, 1) := by decide +kernel
theorem dX1_countThirds_13 : decode cX1_countThirds 13 = .ok (.bipush 15, 2) := by decide +kernel
theorem dX1_countThirds_15 : decode cX1_countThirds 15 = .ok (.if_icmp .ge 21, 3) := by decide +kernel
theorem dX1_countThirds_18 : decode cX1_countThirds 18 = .ok (.aload_n 0, 1) := by decide +kernel
theorem dX1_countThirds_19 : decode cX1_countThirds 19 = .ok (.iload_n 3, 1) := by decide +kernel
theorem dX1_countThirds_20 : decode cX1_countThirds 20 = .ok (.iload_n 2, 1) := by decide +kernel
theorem dX1_countThirds_21 : decode cX1_countThirds 21 = .ok (.invokevirtual 48, 3) := by decide +kernel
theorem dX1_countThirds_24 : decode cX1_countThirds 24 = .ok (.ifCond .eq 6, 3) := by decide +kernel
theorem dX1_countThirds_27 : decode cX1_countThirds 27 = .ok (.iinc 1 2, 3) := by decide +kernel
theorem dX1_countThirds_30 : decode cX1_countThirds 30 = .ok (.iinc 3 1, 3) := by decide +kernel
theorem dX1_countThirds_33 : decode cX1_countThirds 33 = .ok (.goto (-21), 3) := by decide +kernel
theorem dX1_countThirds_36 : decode cX1_countThirds 36 = .ok (.iinc 2 1, 3) := by decide +kernel
theorem dX1_countThirds_39 : decode cX1_countThirds 39 = .ok (.goto (-35), 3) := by decide +kernel
theorem dX1_countThirds_42 : decode cX1_countThirds 42 = .ok (.iload_n 1, 1) := by decide +kernel
theorem dX1_countThirds_43 : decode cX1_countThirds 43 = .ok (.ireturn, 1) := by decide +kernel
theorem dX1_volumeAbove_0 : decode cX1_volumeAbove 0 = .ok (.lconst 0, 1) := by decide +kernel
theorem dX1_volumeAbove_1 : decode cX1_volumeAbove 1 = .ok (.lstore_n 2, 1) := by decide +kernel
theorem dX1_volumeAbove_2 : decode cX1_volumeAbove 2 = .ok (.iconst 0, 1) := by decide +kernel
theorem dX1_volumeAbove_3 : decode cX1_volumeAbove 3 = .ok (.istore 4, 2) := by decide +kernel
theorem dX1_volumeAbove_5 : decode cX1_volumeAbove 5 = .ok (.iload 4, 2) := by decide +kernel
theorem dX1_volumeAbove_7 : decode cX1_volumeAbove 7 = .ok (.bipush 15, 2) := by decide +kernel
theorem dX1_volumeAbove_9 : decode cX1_volumeAbove 9 = .ok (.if_icmp .ge 55, 3) := by decide +kernel
theorem dX1_volumeAbove_12 : decode cX1_volumeAbove 12 = .ok (.iconst 0, 1) := by decide +kernel
theorem dX1_volumeAbove_13 : decode cX1_volumeAbove 13 = .ok (.istore 5, 2) := by decide +kernel
theorem dX1_volumeAbove_15 : decode cX1_volumeAbove 15 = .ok (.iload 5, 2) := by decide +kernel
theorem dX1_volumeAbove_17 : decode cX1_volumeAbove 17 = .ok (.bipush 15, 2) := by decide +kernel
theorem dX1_volumeAbove_19 : decode cX1_volumeAbove 19 = .ok (.if_icmp .ge 39, 3) := by decide +kernel
theorem dX1_volumeAbove_22 : decode cX1_volumeAbove 22 = .ok (.aload_n 0, 1) := by decide +kernel
theorem dX1_volumeAbove_23 : decode cX1_volumeAbove 23 = .ok (.iload 5, 2) := by decide +kernel
theorem dX1_volumeAbove_25 : decode cX1_volumeAbove 25 = .ok (.iload 4, 2) := by decide +kernel
theorem dX1_volumeAbove_27 : decode cX1_volumeAbove 27 = .ok (.invokevirtual 48, 3) := by decide +kernel
theorem dX1_volumeAbove_30 : decode cX1_volumeAbove 30 = .ok (.ifCond .eq 22, 3) := by decide +kernel
theorem dX1_volumeAbove_33 : decode cX1_volumeAbove 33 = .ok (.lload_n 2, 1) := by decide +kernel
theorem dX1_volumeAbove_34 : decode cX1_volumeAbove 34 = .ok (.aload_n 0, 1) := by decide +kernel
theorem dX1_volumeAbove_35 : decode cX1_volumeAbove 35 = .ok (.iload 5, 2) := by decide +kernel
theorem dX1_volumeAbove_37 : decode cX1_volumeAbove 37 = .ok (.iload 4, 2) := by decide +kernel
theorem dX1_volumeAbove_39 : decode cX1_volumeAbove 39 = .ok (.invokevirtual 51, 3) := by decide +kernel
theorem dX1_volumeAbove_42 : decode cX1_volumeAbove 42 = .ok (.i2l, 1) := by decide +kernel
theorem dX1_volumeAbove_43 : decode cX1_volumeAbove 43 = .ok (.ldc2_w 54, 3) := by decide +kernel
theorem dX1_volumeAbove_46 : decode cX1_volumeAbove 46 = .ok (.iload_n 1, 1) := by decide +kernel
theorem dX1_volumeAbove_47 : decode cX1_volumeAbove 47 = .ok (.i2l, 1) := by decide +kernel
theorem dX1_volumeAbove_48 : decode cX1_volumeAbove 48 = .ok (.lmul, 1) := by decide +kernel
theorem dX1_volumeAbove_49 : decode cX1_volumeAbove 49 = .ok (.lsub, 1) := by decide +kernel
theorem dX1_volumeAbove_50 : decode cX1_volumeAbove 50 = .ok (.ladd, 1) := by decide +kernel
theorem dX1_volumeAbove_51 : decode cX1_volumeAbove 51 = .ok (.lstore_n 2, 1) := by decide +kernel
theorem dX1_volumeAbove_52 : decode cX1_volumeAbove 52 = .ok (.iinc 5 1, 3) := by decide +kernel
theorem dX1_volumeAbove_55 : decode cX1_volumeAbove 55 = .ok (.goto (-40), 3) := by decide +kernel
theorem dX1_volumeAbove_58 : decode cX1_volumeAbove 58 = .ok (.iinc 4 1, 3) := by decide +kernel
theorem dX1_volumeAbove_61 : decode cX1_volumeAbove 61 = .ok (.goto (-56), 3) := by decide +kernel
theorem dX1_volumeAbove_64 : decode cX1_volumeAbove 64 = .ok (.ldc2_w 56, 3) := by decide +kernel
theorem dX1_volumeAbove_67 : decode cX1_volumeAbove 67 = .ok (.lload_n 2, 1) := by decide +kernel
theorem dX1_volumeAbove_68 : decode cX1_volumeAbove 68 = .ok (.lmul, 1) := by decide +kernel
theorem dX1_volumeAbove_69 : decode cX1_volumeAbove 69 = .ok (.lreturn, 1) := by decide +kernel
theorem dX1_sumOfBoth_0 : decode cX1_sumOfBoth 0 = .ok (.iconst 2, 1) := by decide +kernel
theorem dX1_sumOfBoth_1 : decode cX1_sumOfBoth 1 = .ok (.aload_n 0, 1) := by decide +kernel
theorem dX1_sumOfBoth_2 : decode cX1_sumOfBoth 2 = .ok (.iload_n 1, 1) := by decide +kernel
theorem dX1_sumOfBoth_3 : decode cX1_sumOfBoth 3 = .ok (.iload_n 2, 1) := by decide +kernel
theorem dX1_sumOfBoth_4 : decode cX1_sumOfBoth 4 = .ok (.invokevirtual 58, 3) := by decide +kernel
theorem dX1_sumOfBoth_7 : decode cX1_sumOfBoth 7 = .ok (.aload_n 0, 1) := by decide +kernel
theorem dX1_sumOfBoth_8 : decode cX1_sumOfBoth 8 = .ok (.iload_n 1, 1) := by decide +kernel
theorem dX1_sumOfBoth_9 : decode cX1_sumOfBoth 9 = .ok (.iconst 1, 1) := by decide +kernel
theorem dX1_sumOfBoth_10 : decode cX1_sumOfBoth 10 = .ok (.iadd, 1) := by decide +kernel
theorem dX1_sumOfBoth_11 : decode cX1_sumOfBoth 11 = .ok (.iload_n 2, 1) := by decide +kernel
theorem dX1_sumOfBoth_12 : decode cX1_sumOfBoth 12 = .ok (.iconst 1, 1) := by decide +kernel
theorem dX1_sumOfBoth_13 : decode cX1_sumOfBoth 13 = .ok (.iadd, 1) := by decide +kernel
theorem dX1_sumOfBoth_14 : decode cX1_sumOfBoth 14 = .ok (.invokevirtual 58, 3) := by decide +kernel
theorem dX1_sumOfBoth_17 : decode cX1_sumOfBoth 17 = .ok (.iadd, 1) := by decide +kernel
theorem dX1_sumOfBoth_18 : decode cX1_sumOfBoth 18 = .ok (.imul, 1) := by decide +kernel
theorem dX1_sumOfBoth_19 : decode cX1_sumOfBoth 19 = .ok (.aload_n 0, 1) := by decide +kernel
theorem dX1_sumOfBoth_20 : decode cX1_sumOfBoth 20 = .ok (.iload_n 1, 1) := by decide +kernel
theorem dX1_sumOfBoth_21 : decode cX1_sumOfBoth 21 = .ok (.iconst 1, 1) := by decide +kernel
theorem dX1_sumOfBoth_22 : decode cX1_sumOfBoth 22 = .ok (.iadd, 1) := by decide +kernel
theorem dX1_sumOfBoth_23 : decode cX1_sumOfBoth 23 = .ok (.iload_n 2, 1) := by decide +kernel
theorem dX1_sumOfBoth_24 : decode cX1_sumOfBoth 24 = .ok (.invokevirtual 58, 3) := by decide +kernel
theorem dX1_sumOfBoth_27 : decode cX1_sumOfBoth 27 = .ok (.iadd, 1) := by decide +kernel
theorem dX1_sumOfBoth_28 : decode cX1_sumOfBoth 28 = .ok (.aload_n 0, 1) := by decide +kernel
theorem dX1_sumOfBoth_29 : decode cX1_sumOfBoth 29 = .ok (.iload_n 1, 1) := by decide +kernel
theorem dX1_sumOfBoth_30 : decode cX1_sumOfBoth 30 = .ok (.iload_n 2, 1) := by decide +kernel
theorem dX1_sumOfBoth_31 : decode cX1_sumOfBoth 31 = .ok (.iconst 1, 1) := by decide +kernel
theorem dX1_sumOfBoth_32 : decode cX1_sumOfBoth 32 = .ok (.iadd, 1) := by decide +kernel
theorem dX1_sumOfBoth_33 : decode cX1_sumOfBoth 33 = .ok (.invokevirtual 58, 3) := by decide +kernel
theorem dX1_sumOfBoth_36 : decode cX1_sumOfBoth 36 = .ok (.iadd, 1) := by decide +kernel
theorem dX1_sumOfBoth_37 : decode cX1_sumOfBoth 37 = .ok (.ireturn, 1) := by decide +kernel
theorem dX1_bothFilled_0 : decode cX1_bothFilled 0 = .ok (.aload_n 0, 1) := by decide +kernel
theorem dX1_bothFilled_1 : decode cX1_bothFilled 1 = .ok (.getfield 9, 3) := by decide +kernel
theorem dX1_bothFilled_4 : decode cX1_bothFilled 4 = .ok (.iload_n 2, 1) := by decide +kernel
theorem dX1_bothFilled_5 : decode cX1_bothFilled 5 = .ok (.iaload, 1) := by decide +kernel
theorem dX1_bothFilled_6 : decode cX1_bothFilled 6 = .ok (.ldc 15, 2) := by decide +kernel
theorem dX1_bothFilled_8 : decode cX1_bothFilled 8 = .ok (.if_icmp .eq 18, 3) := by decide +kernel
theorem dX1_bothFilled_11 : decode cX1_bothFilled 11 = .ok (.aload_n 1, 1) := by decide +kernel
theorem dX1_bothFilled_12 : decode cX1_bothFilled 12 = .ok (.getfield 9, 3) := by decide +kernel
theorem dX1_bothFilled_15 : decode cX1_bothFilled 15 = .ok (.iload_n 2, 1) := by decide +kernel
theorem dX1_bothFilled_16 : decode cX1_bothFilled 16 = .ok (.iaload, 1) := by decide +kernel
theorem dX1_bothFilled_17 : decode cX1_bothFilled 17 = .ok (.ldc 15, 2) := by decide +kernel
theorem dX1_bothFilled_19 : decode cX1_bothFilled 19 = .ok (.if_icmp .eq 7, 3) := by decide +kernel
theorem dX1_bothFilled_22 : decode cX1_bothFilled 22 = .ok (.iconst 1, 1) := by decide +kernel
theorem dX1_bothFilled_23 : decode cX1_bothFilled 23 = .ok (.goto 4, 3) := by decide +kernel
theorem dX1_bothFilled_26 : decode cX1_bothFilled 26 = .ok (.iconst 0, 1) := by decide +kernel
theorem dX1_bothFilled_27 : decode cX1_bothFilled 27 = .ok (.ireturn, 1) := by decide +kernel
theorem dX1_countBoth_0 : decode cX1_countBoth 0 = .ok (.iconst 0, 1) := by decide +kernel
theorem dX1_countBoth_1 : decode cX1_countBoth 1 = .ok (.istore_n 2, 1) := by decide +kernel
theorem dX1_countBoth_2 : decode cX1_countBoth 2 = .ok (.iconst 0, 1) := by decide +kernel
theorem dX1_countBoth_3 : decode cX1_countBoth 3 = .ok (.istore_n 3, 1) := by decide +kernel
theorem dX1_countBoth_4 : decode cX1_countBoth 4 = .ok (.iload_n 3, 1) := by decide +kernel
theorem dX1_countBoth_5 : decode cX1_countBoth 5 = .ok (.aload_n 0, 1) := by decide +kernel
theorem dX1_countBoth_6 : decode cX1_countBoth 6 = .ok (.getfield 9, 3) := by decide +kernel
theorem dX1_countBoth_9 : decode cX1_countBoth 9 = .ok (.arraylength, 1) := by decide +kernel
theorem dX1_countBoth_10 : decode cX1_countBoth 10 = .ok (.if_icmp .ge 21, 3) := by decide +kernel
theorem dX1_countBoth_13 : decode cX1_countBoth 13 = .ok (.aload_n 0, 1) := by decide +kernel
theorem dX1_countBoth_14 : decode cX1_countBoth 14 = .ok (.aload_n 1, 1) := by decide +kernel
theorem dX1_countBoth_15 : decode cX1_countBoth 15 = .ok (.iload_n 3, 1) := by decide +kernel
theorem dX1_countBoth_16 : decode cX1_countBoth 16 = .ok (.invokevirtual 61, 3) := by decide +kernel
theorem dX1_countBoth_19 : decode cX1_countBoth 19 = .ok (.ifCond .eq 6, 3) := by decide +kernel
theorem dX1_countBoth_22 : decode cX1_countBoth 22 = .ok (.iinc 2 1, 3) := by decide +kernel
theorem dX1_countBoth_25 : decode cX1_countBoth 25 = .ok (.iinc 3 1, 3) := by decide +kernel
theorem dX1_countBoth_28 : decode cX1_countBoth 28 = .ok (.goto (-24), 3) := by decide +kernel
theorem dX1_countBoth_31 : decode cX1_countBoth 31 = .ok (.iload_n 2, 1) := by decide +kernel
theorem dX1_countBoth_32 : decode cX1_countBoth 32 = .ok (.ireturn, 1) := by decide +kernel
theorem dX1_countRisen_0 : decode cX1_countRisen 0 = .ok (.iconst 0, 1) := by decide +kernel
theorem dX1_countRisen_1 : decode cX1_countRisen 1 = .ok (.istore_n 3, 1) := by decide +kernel
theorem dX1_countRisen_2 : decode cX1_countRisen 2 = .ok (.iconst 0, 1) := by decide +kernel
theorem dX1_countRisen_3 : decode cX1_countRisen 3 = .ok (.istore 4, 2) := by decide +kernel
theorem dX1_countRisen_5 : decode cX1_countRisen 5 = .ok (.iload 4, 2) := by decide +kernel
theorem dX1_countRisen_7 : decode cX1_countRisen 7 = .ok (.aload_n 0, 1) := by decide +kernel
theorem dX1_countRisen_8 : decode cX1_countRisen 8 = .ok (.getfield 9, 3) := by decide +kernel
theorem dX1_countRisen_11 : decode cX1_countRisen 11 = .ok (.arraylength, 1) := by decide +kernel
theorem dX1_countRisen_12 : decode cX1_countRisen 12 = .ok (.if_icmp .ge 50, 3) := by decide +kernel
theorem dX1_countRisen_15 : decode cX1_countRisen 15 = .ok (.aload_n 0, 1) := by decide +kernel
theorem dX1_countRisen_16 : decode cX1_countRisen 16 = .ok (.aload_n 1, 1) := by decide +kernel
theorem dX1_countRisen_17 : decode cX1_countRisen 17 = .ok (.iload 4, 2) := by decide +kernel
theorem dX1_countRisen_19 : decode cX1_countRisen 19 = .ok (.invokevirtual 61, 3) := by decide +kernel
theorem dX1_countRisen_22 : decode cX1_countRisen 22 = .ok (.ifCond .eq 34, 3) := by decide +kernel
theorem dX1_countRisen_25 : decode cX1_countRisen 25 = .ok (.aload_n 1, 1) := by decide +kernel
theorem dX1_countRisen_26 : decode cX1_countRisen 26 = .ok (.getfield 9, 3) := by decide +kernel
theorem dX1_countRisen_29 : decode cX1_countRisen 29 = .ok (.iload 4, 2) := by decide +kernel
theorem dX1_countRisen_31 : decode cX1_countRisen 31 = .ok (.iaload, 1) := by decide +kernel
theorem dX1_countRisen_32 : decode cX1_countRisen 32 = .ok (.aload_n 0, 1) := by decide +kernel
theorem dX1_countRisen_33 : decode cX1_countRisen 33 = .ok (.getfield 9, 3) := by decide +kernel
theorem dX1_countRisen_36 : decode cX1_countRisen 36 = .ok (.iload 4, 2) := by decide +kernel
theorem dX1_countRisen_38 : decode cX1_countRisen 38 = .ok (.iaload, 1) := by decide +kernel
theorem dX1_countRisen_39 : decode cX1_countRisen 39 = .ok (.isub, 1) := by decide +kernel
theorem dX1_countRisen_40 : decode cX1_countRisen 40 = .ok (.istore 5, 2) := by decide +kernel
theorem dX1_countRisen_42 : decode cX1_countRisen 42 = .ok (.iload 5, 2) := by decide +kernel
theorem dX1_countRisen_44 : decode cX1_countRisen 44 = .ok (.ifCond .le 12, 3) := by decide +kernel
theorem dX1_countRisen_47 : decode cX1_countRisen 47 = .ok (.iload 5, 2) := by decide +kernel
theorem dX1_countRisen_49 : decode cX1_countRisen 49 = .ok (.iload_n 2, 1) := by decide +kernel
theorem dX1_countRisen_50 : decode cX1_countRisen 50 = .ok (.if_icmp .lt 6, 3) := by decide +kernel
theorem dX1_countRisen_53 : decode cX1_countRisen 53 = .ok (.iinc 3 1, 3) := by decide +kernel
theorem dX1_countRisen_56 : decode cX1_countRisen 56 = .ok (.iinc 4 1, 3) := by decide +kernel
theorem dX1_countRisen_59 : decode cX1_countRisen 59 = .ok (.goto (-54), 3) := by decide +kernel
theorem dX1_countRisen_62 : decode cX1_countRisen 62 = .ok (.iload_n 3, 1) := by decide +kernel
theorem dX1_countRisen_63 : decode cX1_countRisen 63 = .ok (.ireturn, 1) := by decide +kernel
theorem dX1_sumOfRises_0 : decode cX1_sumOfRises 0 = .ok (.iconst 0, 1) := by decide +kernel
theorem dX1_sumOfRises_1 : decode cX1_sumOfRises 1 = .ok (.istore_n 2, 1) := by decide +kernel
theorem dX1_sumOfRises_2 : decode cX1_sumOfRises 2 = .ok (.iconst 0, 1) := by decide +kernel
theorem dX1_sumOfRises_3 : decode cX1_sumOfRises 3 = .ok (.istore_n 3, 1) := by decide +kernel
theorem dX1_sumOfRises_4 : decode cX1_sumOfRises 4 = .ok (.iload_n 3, 1) := by decide +kernel
theorem dX1_sumOfRises_5 : decode cX1_sumOfRises 5 = .ok (.aload_n 0, 1) := by decide +kernel
theorem dX1_sumOfRises_6 : decode cX1_sumOfRises 6 = .ok (.getfield 9, 3) := by decide +kernel
theorem dX1_sumOfRises_9 : decode cX1_sumOfRises 9 = .ok (.arraylength, 1) := by decide +kernel
theorem dX1_sumOfRises_10 : decode cX1_sumOfRises 10 = .ok (.if_icmp .ge 34, 3) := by decide +kernel
theorem dX1_sumOfRises_13 : decode cX1_sumOfRises 13 = .ok (.aload_n 0, 1) := by decide +kernel
theorem dX1_sumOfRises_14 : decode cX1_sumOfRises 14 = .ok (.aload_n 1, 1) := by decide +kernel
theorem dX1_sumOfRises_15 : decode cX1_sumOfRises 15 = .ok (.iload_n 3, 1) := by decide +kernel
theorem dX1_sumOfRises_16 : decode cX1_sumOfRises 16 = .ok (.invokevirtual 61, 3) := by decide +kernel
theorem dX1_sumOfRises_19 : decode cX1_sumOfRises 19 = .ok (.ifCond .eq 19, 3) := by decide +kernel
theorem dX1_sumOfRises_22 : decode cX1_sumOfRises 22 = .ok (.iload_n 2, 1) := by decide +kernel
theorem dX1_sumOfRises_23 : decode cX1_sumOfRises 23 = .ok (.aload_n 1, 1) := by decide +kernel
theorem dX1_sumOfRises_24 : decode cX1_sumOfRises 24 = .ok (.getfield 9, 3) := by decide +kernel
theorem dX1_sumOfRises_27 : decode cX1_sumOfRises 27 = .ok (.iload_n 3, 1) := by decide +kernel
theorem dX1_sumOfRises_28 : decode cX1_sumOfRises 28 = .ok (.iaload, 1) := by decide +kernel
theorem dX1_sumOfRises_29 : decode cX1_sumOfRises 29 = .ok (.aload_n 0, 1) := by decide +kernel
theorem dX1_sumOfRises_30 : decode cX1_sumOfRises 30 = .ok (.getfield 9, 3) := by decide +kernel
theorem dX1_sumOfRises_33 : decode cX1_sumOfRises 33 = .ok (.iload_n 3, 1) := by decide +kernel
theorem dX1_sumOfRises_34 : decode cX1_sumOfRises 34 = .ok (.iaload, 1) := by decide +kernel
theorem dX1_sumOfRises_35 : decode cX1_sumOfRises 35 = .ok (.isub, 1) := by decide +kernel
theorem dX1_sumOfRises_36 : decode cX1_sumOfRises 36 = .ok (.iadd, 1) := by decide +kernel
theorem dX1_sumOfRises_37 : decode cX1_sumOfRises 37 = .ok (.istore_n 2, 1) := by decide +kernel
theorem dX1_sumOfRises_38 : decode cX1_sumOfRises 38 = .ok (.iinc 3 1, 3) := by decide +kernel
theorem dX1_sumOfRises_41 : decode cX1_sumOfRises 41 = .ok (.goto (-37), 3) := by decide +kernel
theorem dX1_sumOfRises_44 : decode cX1_sumOfRises 44 = .ok (.iload_n 2, 1) := by decide +kernel
theorem dX1_sumOfRises_45 : decode cX1_sumOfRises 45 = .ok (.ireturn, 1) := by decide +kernel
theorem dX2_init_0 : decode cX2_init 0 = .ok (.aload_n 0, 1) := by decide +kernel
theorem dX2_init_1 : decode cX2_init 1 = .ok (.invokespecial 5, 3) := by decide +kernel
theorem dX2_init_4 : decode cX2_init 4 = .ok (.aload_n 0, 1) := by decide +kernel
theorem dX2_init_5 : decode cX2_init 5 = .ok (.bipush 80, 2) := by decide +kernel
theorem dX2_init_7 : decode cX2_init 7 = .ok (.newarray .char, 2) := by decide +kernel
theorem dX2_init_9 : decode cX2_init 9 = .ok (.putfield 13, 3) := by decide +kernel
theorem dX2_init_12 : decode cX2_init 12 = .ok (.aload_n 0, 1) := by decide +kernel
theorem dX2_init_13 : decode cX2_init 13 = .ok (.bipush 80, 2) := by decide +kernel
theorem dX2_init_15 : decode cX2_init 15 = .ok (.newarray .int, 2) := by decide +kernel
theorem dX2_init_17 : decode cX2_init 17 = .ok (.putfield 17, 3) := by decide +kernel
theorem dX2_init_20 : decode cX2_init 20 = .ok (.aload_n 0, 1) := by decide +kernel
theorem dX2_init_21 : decode cX2_init 21 = .ok (.bipush 80, 2) := by decide +kernel
theorem dX2_init_23 : decode cX2_init 23 = .ok (.newarray .int, 2) := by decide +kernel
theorem dX2_init_25 : decode cX2_init 25 = .ok (.putfield 21, 3) := by decide +kernel
theorem dX2_init_28 : decode cX2_init 28 = .ok (.aload_n 0, 1) := by decide +kernel
theorem dX2_init_29 : decode cX2_init 29 = .ok (.bipush 80, 2) := by decide +kernel
theorem dX2_init_31 : decode cX2_init 31 = .ok (.newarray .int, 2) := by decide +kernel
theorem dX2_init_33 : decode cX2_init 33 = .ok (.putfield 24, 3) := by decide +kernel
theorem dX2_init_36 : decode cX2_init 36 = .ok (.aload_n 0, 1) := by decide +kernel
theorem dX2_init_37 : decode cX2_init 37 = .ok (.iconst 0, 1) := by decide +kernel
theorem dX2_init_38 : decode cX2_init 38 = .ok (.putfield 27, 3) := by decide +kernel
theorem dX2_init_41 : decode cX2_init 41 = .ok (.aload_n 0, 1) := by decide +kernel
theorem dX2_init_42 : decode cX2_init 42 = .ok (.iconst 0, 1) := by decide +kernel
theorem dX2_init_43 : decode cX2_init 43 = .ok (.newarray .char, 2) := by decide +kernel
theorem dX2_init_45 : decode cX2_init 45 = .ok (.putfield 31, 3) := by decide +kernel
theorem dX2_init_48 : decode cX2_init 48 = .ok (.aload_n 0, 1) := by decide +kernel
theorem dX2_init_49 : decode cX2_init 49 = .ok (.iconst 0, 1) := by decide +kernel
theorem dX2_init_50 : decode cX2_init 50 = .ok (.putfield 34, 3) := by decide +kernel
theorem dX2_init_53 : decode cX2_init 53 = .ok (.aload_n 0, 1) := by decide +kernel
theorem dX2_init_54 : decode cX2_init 54 = .ok (.iconst 0, 1) := by decide +kernel
theorem dX2_init_55 : decode cX2_init 55 = .ok (.putfield 37, 3) := by decide +kernel
theorem dX2_init_58 : decode cX2_init 58 = .ok (.aload_n 0, 1) := by decide +kernel
theorem dX2_init_59 : decode cX2_init 59 = .ok (.iconst 0, 1) := by decide +kernel
theorem dX2_init_60 : decode cX2_init 60 = .ok (.putfield 40, 3) := by decide +kernel
theorem dX2_init_63 : decode cX2_init 63 = .ok (.return_, 1) := by decide +kernel
theorem dX2_read_0 : decode cX2_read 0 = .ok (.aload_n 0, 1) := by decide +kernel
theorem dX2_read_1 : decode cX2_read 1 = .ok (.aload_n 1, 1) := by decide +kernel
theorem dX2_read_2 : decode cX2_read 2 = .ok (.getfield 44, 3) := by decide +kernel
theorem dX2_read_5 : decode cX2_read 5 = .ok (.putfield 31, 3) := by decide +kernel
theorem dX2_read_8 : decode cX2_read 8 = .ok (.aload_n 0, 1) := by decide +kernel
theorem dX2_read_9 : decode cX2_read 9 = .ok (.aload_n 1, 1) := by decide +kernel
theorem dX2_read_10 : decode cX2_read 10 = .ok (.getfield 45, 3) := by decide +kernel
theorem dX2_read_13 : decode cX2_read 13 = .ok (.putfield 34, 3) := by decide +kernel
theorem dX2_read_16 : decode cX2_read 16 = .ok (.aload_n 0, 1) := by decide +kernel
theorem dX2_read_17 : decode cX2_read 17 = .ok (.iconst 0, 1) := by decide +kernel
theorem dX2_read_18 : decode cX2_read 18 = .ok (.putfield 37, 3) := by decide +kernel
theorem dX2_read_21 : decode cX2_read 21 = .ok (.aload_n 0, 1) := by decide +kernel
theorem dX2_read_22 : decode cX2_read 22 = .ok (.iconst 0, 1) := by decide +kernel
theorem dX2_read_23 : decode cX2_read 23 = .ok (.putfield 27, 3) := by decide +kernel
theorem dX2_read_26 : decode cX2_read 26 = .ok (.aload_n 0, 1) := by decide +kernel
theorem dX2_read_27 : decode cX2_read 27 = .ok (.iconst 0, 1) := by decide +kernel
theorem dX2_read_28 : decode cX2_read 28 = .ok (.putfield 40, 3) := by decide +kernel
theorem dX2_read_31 : decode cX2_read 31 = .ok (.aload_n 0, 1) := by decide +kernel
theorem dX2_read_32 : decode cX2_read 32 = .ok (.invokevirtual 46, 3) := by decide +kernel
theorem dX2_read_35 : decode cX2_read 35 = .ok (.iconst 1, 1) := by decide +kernel
theorem dX2_read_36 : decode cX2_read 36 = .ok (.istore_n 2, 1) := by decide +kernel
theorem dX2_read_37 : decode cX2_read 37 = .ok (.iload_n 2, 1) := by decide +kernel
theorem dX2_read_38 : decode cX2_read 38 = .ok (.bipush 80, 2) := by decide +kernel
theorem dX2_read_40 : decode cX2_read 40 = .ok (.if_icmp .ge 31, 3) := by decide +kernel
theorem dX2_read_43 : decode cX2_read 43 = .ok (.aload_n 0, 1) := by decide +kernel
theorem dX2_read_44 : decode cX2_read 44 = .ok (.getfield 40, 3) := by decide +kernel
theorem dX2_read_47 : decode cX2_read 47 = .ok (.ifCond .ne 24, 3) := by decide +kernel
theorem dX2_read_50 : decode cX2_read 50 = .ok (.aload_n 0, 1) := by decide +kernel
theorem dX2_read_51 : decode cX2_read 51 = .ok (.invokevirtual 49, 3) := by decide +kernel
theorem dX2_read_54 : decode cX2_read 54 = .ok (.ifCond .eq 17, 3) := by decide +kernel
theorem dX2_read_57 : decode cX2_read 57 = .ok (.aload_n 0, 1) := by decide +kernel
theorem dX2_read_58 : decode cX2_read 58 = .ok (.invokevirtual 53, 3) := by decide +kernel
theorem dX2_read_61 : decode cX2_read 61 = .ok (.aload_n 0, 1) := by decide +kernel
theorem dX2_read_62 : decode cX2_read 62 = .ok (.invokevirtual 46, 3) := by decide +kernel
theorem dX2_read_65 : decode cX2_read 65 = .ok (.iinc 2 1, 3) := by decide +kernel
theorem dX2_read_68 : decode cX2_read 68 = .ok (.goto (-31), 3) := by decide +kernel
theorem dX2_read_71 : decode cX2_read 71 = .ok (.aload_n 0, 1) := by decide +kernel
theorem dX2_read_72 : decode cX2_read 72 = .ok (.getfield 40, 3) := by decide +kernel
theorem dX2_read_75 : decode cX2_read 75 = .ok (.ifCond .eq 13, 3) := by decide +kernel
theorem dX2_read_78 : decode cX2_read 78 = .ok (.bipush (-20), 2) := by decide +kernel
theorem dX2_read_80 : decode cX2_read 80 = .ok (.aload_n 0, 1) := by decide +kernel
theorem dX2_read_81 : decode cX2_read 81 = .ok (.getfield 37, 3) := by decide +kernel
theorem dX2_read_84 : decode cX2_read 84 = .ok (.isub, 1) := by decide +kernel
theorem dX2_read_85 : decode cX2_read 85 = .ok (.goto 4, 3) := by decide +kernel
theorem dX2_read_88 : decode cX2_read 88 = .ok (.iconst 0, 1) := by decide +kernel
theorem dX2_read_89 : decode cX2_read 89 = .ok (.ireturn, 1) := by decide +kernel
theorem dX2_hasMore_0 : decode cX2_hasMore 0 = .ok (.aload_n 0, 1) := by decide +kernel
theorem dX2_hasMore_1 : decode cX2_hasMore 1 = .ok (.getfield 37, 3) := by decide +kernel
theorem dX2_hasMore_4 : decode cX2_hasMore 4 = .ok (.aload_n 0, 1) := by decide +kernel
theorem dX2_hasMore_5 : decode cX2_hasMore 5 = .ok (.getfield 34, 3) := by decide +kernel
theorem dX2_hasMore_8 : decode cX2_hasMore 8 = .ok (.if_icmp .ge 30, 3) := by decide +kernel
theorem dX2_hasMore_11 : decode cX2_hasMore 11 = .ok (.aload_n 0, 1) := by decide +kernel
theorem dX2_hasMore_12 : decode cX2_hasMore 12 = .ok (.getfield 31, 3) := by decide +kernel
theorem dX2_hasMore_15 : decode cX2_hasMore 15 = .ok (.aload_n 0, 1) := by decide +kernel
theorem dX2_hasMore_16 : decode cX2_hasMore 16 = .ok (.getfield 37, 3) := by decide +kernel
theorem dX2_hasMore_19 : decode cX2_hasMore 19 = .ok (.caload, 1) := by decide +kernel
theorem dX2_hasMore_20 : decode cX2_hasMore 20 = .ok (.bipush 32, 2) := by decide +kernel
theorem dX2_hasMore_22 : decode cX2_hasMore 22 = .ok (.if_icmp .ne 16, 3) := by decide +kernel
theorem dX2_hasMore_25 : decode cX2_hasMore 25 = .ok (.aload_n 0, 1) := by decide +kernel
theorem dX2_hasMore_26 : decode cX2_hasMore 26 = .ok (.dup, 1) := by decide +kernel
theorem dX2_hasMore_27 : decode cX2_hasMore 27 = .ok (.getfield 37, 3) := by decide +kernel
theorem dX2_hasMore_30 : decode cX2_hasMore 30 = .ok (.iconst 1, 1) := by decide +kernel
theorem dX2_hasMore_31 : decode cX2_hasMore 31 = .ok (.iadd, 1) := by decide +kernel
theorem dX2_hasMore_32 : decode cX2_hasMore 32 = .ok (.putfield 37, 3) := by decide +kernel
theorem dX2_hasMore_35 : decode cX2_hasMore 35 = .ok (.goto (-35), 3) := by decide +kernel
theorem dX2_hasMore_38 : decode cX2_hasMore 38 = .ok (.aload_n 0, 1) := by decide +kernel
theorem dX2_hasMore_39 : decode cX2_hasMore 39 = .ok (.getfield 37, 3) := by decide +kernel
theorem dX2_hasMore_42 : decode cX2_hasMore 42 = .ok (.aload_n 0, 1) := by decide +kernel
theorem dX2_hasMore_43 : decode cX2_hasMore 43 = .ok (.getfield 34, 3) := by decide +kernel
theorem dX2_hasMore_46 : decode cX2_hasMore 46 = .ok (.if_icmp .ge 7, 3) := by decide +kernel
theorem dX2_hasMore_49 : decode cX2_hasMore 49 = .ok (.iconst 1, 1) := by decide +kernel
theorem dX2_hasMore_50 : decode cX2_hasMore 50 = .ok (.goto 4, 3) := by decide +kernel
theorem dX2_hasMore_53 : decode cX2_hasMore 53 = .ok (.iconst 0, 1) := by decide +kernel
theorem dX2_hasMore_54 : decode cX2_hasMore 54 = .ok (.ireturn, 1) := by decide +kernel
theorem dX2_readBetween_0 : decode cX2_readBetween 0 = .ok (.aload_n 0, 1) := by decide +kernel
theorem dX2_readBetween_1 : decode cX2_readBetween 1 = .ok (.invokevirtual 49, 3) := by decide +kernel
theorem dX2_readBetween_4 : decode cX2_readBetween 4 = .ok (.ifCond .eq 30, 3) := by decide +kernel
theorem dX2_readBetween_7 : decode cX2_readBetween 7 = .ok (.aload_n 0, 1) := by decide +kernel
theorem dX2_readBetween_8 : decode cX2_readBetween 8 = .ok (.getfield 31, 3) := by decide +kernel
theorem dX2_readBetween_11 : decode cX2_readBetween 11 = .ok (.aload_n 0, 1) := by decide +kernel
theorem dX2_readBetween_12 : decode cX2_readBetween 12 = .ok (.getfield 37, 3) := by decide +kernel
theorem dX2_readBetween_15 : decode cX2_readBetween 15 = .ok (.caload, 1) := by decide +kernel
theorem dX2_readBetween_16 : decode cX2_readBetween 16 = .ok (.bipush 59, 2) := by decide +kernel
theorem dX2_readBetween_18 : decode cX2_readBetween 18 = .ok (.if_icmp .ne 16, 3) := by decide +kernel
theorem dX2_readBetween_21 : decode cX2_readBetween 21 = .ok (.aload_n 0, 1) := by decide +kernel
theorem dX2_readBetween_22 : decode cX2_readBetween 22 = .ok (.dup, 1) := by decide +kernel
theorem dX2_readBetween_23 : decode cX2_readBetween 23 = .ok (.getfield 37, 3) := by decide +kernel
theorem dX2_readBetween_26 : decode cX2_readBetween 26 = .ok (.iconst 1, 1) := by decide +kernel
theorem dX2_readBetween_27 : decode cX2_readBetween 27 = .ok (.iadd, 1) := by decide +kernel
theorem dX2_readBetween_28 : decode cX2_readBetween 28 = .ok (.putfield 37, 3) := by decide +kernel
theorem dX2_readBetween_31 : decode cX2_readBetween 31 = .ok (.goto 8, 3) := by decide +kernel
theorem dX2_readBetween_34 : decode cX2_readBetween 34 = .ok (.aload_n 0, 1) := by decide +kernel
theorem dX2_readBetween_35 : decode cX2_readBetween 35 = .ok (.iconst 1, 1) := by decide +kernel
theorem dX2_readBetween_36 : decode cX2_readBetween 36 = .ok (.putfield 40, 3) := by decide +kernel
theorem dX2_readBetween_39 : decode cX2_readBetween 39 = .ok (.return_, 1) := by decide +kernel
theorem dX2_readStep_0 : decode cX2_readStep 0 = .ok (.aload_n 0, 1) := by decide +kernel
theorem dX2_readStep_1 : decode cX2_readStep 1 = .ok (.getfield 40, 3) := by decide +kernel
theorem dX2_readStep_4 : decode cX2_readStep 4 = .ok (.ifCond .ne 19, 3) := by decide +kernel
theorem dX2_readStep_7 : decode cX2_readStep 7 = .ok (.aload_n 0, 1) := by decide +kernel
theorem dX2_readStep_8 : decode cX2_readStep 8 = .ok (.invokevirtual 49, 3) := by decide +kernel
theorem dX2_readStep_11 : decode cX2_readStep 11 = .ok (.ifCond .eq 12, 3) := by decide +kernel
theorem dX2_readStep_14 : decode cX2_readStep 14 = .ok (.aload_n 0, 1) := by decide +kernel
theorem dX2_readStep_15 : decode cX2_readStep 15 = .ok (.getfield 27, 3) := by decide +kernel
theorem dX2_readStep_18 : decode cX2_readStep 18 = .ok (.bipush 80, 2) := by decide +kernel
theorem dX2_readStep_20 : decode cX2_readStep 20 = .ok (.if_icmp .lt 9, 3) := by decide +kernel
theorem dX2_readStep_23 : decode cX2_readStep 23 = .ok (.aload_n 0, 1) := by decide +kernel
theorem dX2_readStep_24 : decode cX2_readStep 24 = .ok (.iconst 1, 1) := by decide +kernel
theorem dX2_readStep_25 : decode cX2_readStep 25 = .ok (.putfield 40, 3) := by decide +kernel
theorem dX2_readStep_28 : decode cX2_readStep 28 = .ok (.return_, 1) := by decide +kernel
theorem dX2_readStep_29 : decode cX2_readStep 29 = .ok (.aload_n 0, 1) := by decide +kernel
theorem dX2_readStep_30 : decode cX2_readStep 30 = .ok (.getfield 31, 3) := by decide +kernel
theorem dX2_readStep_33 : decode cX2_readStep 33 = .ok (.aload_n 0, 1) := by decide +kernel
theorem dX2_readStep_34 : decode cX2_readStep 34 = .ok (.getfield 37, 3) := by decide +kernel
theorem dX2_readStep_37 : decode cX2_readStep 37 = .ok (.caload, 1) := by decide +kernel
theorem dX2_readStep_38 : decode cX2_readStep 38 = .ok (.istore_n 1, 1) := by decide +kernel
theorem dX2_readStep_39 : decode cX2_readStep 39 = .ok (.aload_n 0, 1) := by decide +kernel
theorem dX2_readStep_40 : decode cX2_readStep 40 = .ok (.getfield 13, 3) := by decide +kernel
theorem dX2_readStep_43 : decode cX2_readStep 43 = .ok (.aload_n 0, 1) := by decide +kernel
theorem dX2_readStep_44 : decode cX2_readStep 44 = .ok (.getfield 27, 3) := by decide +kernel
theorem dX2_readStep_47 : decode cX2_readStep 47 = .ok (.iload_n 1, 1) := by decide +kernel
theorem dX2_readStep_48 : decode cX2_readStep 48 = .ok (.castore, 1) := by decide +kernel
theorem dX2_readStep_49 : decode cX2_readStep 49 = .ok (.iload_n 1, 1) := by decide +kernel
theorem dX2_readStep_50 : decode cX2_readStep 50 = .ok (.bipush 70, 2) := by decide +kernel
theorem dX2_readStep_52 : decode cX2_readStep 52 = .ok (.if_icmp .ne 16, 3) := by decide +kernel
theorem dX2_readStep_55 : decode cX2_readStep 55 = .ok (.aload_n 0, 1) := by decide +kernel
theorem dX2_readStep_56 : decode cX2_readStep 56 = .ok (.dup, 1) := by decide +kernel
theorem dX2_readStep_57 : decode cX2_readStep 57 = .ok (.getfield 37, 3) := by decide +kernel
theorem dX2_readStep_60 : decode cX2_readStep 60 = .ok (.iconst 1, 1) := by decide +kernel
theorem dX2_readStep_61 : decode cX2_readStep 61 = .ok (.iadd, 1) := by decide +kernel
theorem dX2_readStep_62 : decode cX2_readStep 62 = .ok (.putfield 37, 3) := by decide +kernel
theorem dX2_readStep_65 : decode cX2_readStep 65 = .ok (.goto 126, 3) := by decide +kernel
theorem dX2_readStep_68 : decode cX2_readStep 68 = .ok (.iload_n 1, 1) := by decide +kernel
theorem dX2_readStep_69 : decode cX2_readStep 69 = .ok (.bipush 71, 2) := by decide +kernel
theorem dX2_readStep_71 : decode cX2_readStep 71 = .ok (.if_icmp .ne 64, 3) := by decide +kernel
theorem dX2_readStep_74 : decode cX2_readStep 74 = .ok (.aload_n 0, 1) := by decide +kernel
theorem dX2_readStep_75 : decode cX2_readStep 75 = .ok (.dup, 1) := by decide +kernel
theorem dX2_readStep_76 : decode cX2_readStep 76 = .ok (.getfield 37, 3) := by decide +kernel
theorem dX2_readStep_79 : decode cX2_readStep 79 = .ok (.iconst 1, 1) := by decide +kernel
theorem dX2_readStep_80 : decode cX2_readStep 80 = .ok (.iadd, 1) := by decide +kernel
theorem dX2_readStep_81 : decode cX2_readStep 81 = .ok (.putfield 37, 3) := by decide +kernel
theorem dX2_readStep_84 : decode cX2_readStep 84 = .ok (.aload_n 0, 1) := by decide +kernel
theorem dX2_readStep_85 : decode cX2_readStep 85 = .ok (.getfield 17, 3) := by decide +kernel
theorem dX2_readStep_88 : decode cX2_readStep 88 = .ok (.aload_n 0, 1) := by decide +kernel
theorem dX2_readStep_89 : decode cX2_readStep 89 = .ok (.getfield 27, 3) := by decide +kernel
theorem dX2_readStep_92 : decode cX2_readStep 92 = .ok (.aload_n 0, 1) := by decide +kernel
theorem dX2_readStep_93 : decode cX2_readStep 93 = .ok (.iconst 0, 1) := by decide +kernel
theorem dX2_readStep_94 : decode cX2_readStep 94 = .ok (.bipush 100, 2) := by decide +kernel
theorem dX2_readStep_96 : decode cX2_readStep 96 = .ok (.invokevirtual 56, 3) := by decide +kernel
theorem dX2_readStep_99 : decode cX2_readStep 99 = .ok (.iastore, 1) := by decide +kernel
theorem dX2_readStep_100 : decode cX2_readStep 100 = .ok (.aload_n 0, 1) := by decide +kernel
theorem dX2_readStep_101 : decode cX2_readStep 101 = .ok (.getfield 21, 3) := by decide +kernel
theorem dX2_readStep_104 : decode cX2_readStep 104 = .ok (.aload_n 0, 1) := by decide +kernel
theorem dX2_readStep_105 : decode cX2_readStep 105 = .ok (.getfield 27, 3) := by decide +kernel
theorem dX2_readStep_108 : decode cX2_readStep 108 = .ok (.aload_n 0, 1) := by decide +kernel
theorem dX2_readStep_109 : decode cX2_readStep 109 = .ok (.iconst 1, 1) := by decide +kernel
theorem dX2_readStep_110 : decode cX2_readStep 110 = .ok (.bipush 100, 2) := by decide +kernel
theorem dX2_readStep_112 : decode cX2_readStep 112 = .ok (.invokevirtual 56, 3) := by decide +kernel
theorem dX2_readStep_115 : decode cX2_readStep 115 = .ok (.iastore, 1) := by decide +kernel
theorem dX2_readStep_116 : decode cX2_readStep 116 = .ok (.aload_n 0, 1) := by decide +kernel
theorem dX2_readStep_117 : decode cX2_readStep 117 = .ok (.getfield 24, 3) := by decide +kernel
theorem dX2_readStep_120 : decode cX2_readStep 120 = .ok (.aload_n 0, 1) := by decide +kernel
theorem dX2_readStep_121 : decode cX2_readStep 121 = .ok (.getfield 27, 3) := by decide +kernel
theorem dX2_readStep_124 : decode cX2_readStep 124 = .ok (.aload_n 0, 1) := by decide +kernel
theorem dX2_readStep_125 : decode cX2_readStep 125 = .ok (.iconst 1, 1) := by decide +kernel
theorem dX2_readStep_126 : decode cX2_readStep 126 = .ok (.bipush 20, 2) := by decide +kernel
theorem dX2_readStep_128 : decode cX2_readStep 128 = .ok (.invokevirtual 56, 3) := by decide +kernel
theorem dX2_readStep_131 : decode cX2_readStep 131 = .ok (.iastore, 1) := by decide +kernel
theorem dX2_readStep_132 : decode cX2_readStep 132 = .ok (.goto 59, 3) := by decide +kernel
theorem dX2_readStep_135 : decode cX2_readStep 135 = .ok (.iload_n 1, 1) := by decide +kernel
theorem dX2_readStep_136 : decode cX2_readStep 136 = .ok (.bipush 82, 2) := by decide +kernel
theorem dX2_readStep_138 : decode cX2_readStep 138 = .ok (.if_icmp .ne 48, 3) := by decide +kernel
theorem dX2_readStep_141 : decode cX2_readStep 141 = .ok (.aload_n 0, 1) := by decide +kernel
theorem dX2_readStep_142 : decode cX2_readStep 142 = .ok (.dup, 1) := by decide +kernel
theorem dX2_readStep_143 : decode cX2_readStep 143 = .ok (.getfield 37, 3) := by decide +kernel
theorem dX2_readStep_146 : decode cX2_readStep 146 = .ok (.iconst 1, 1) := by decide +kernel
theorem dX2_readStep_147 : decode cX2_readStep 147 = .ok (.iadd, 1) := by decide +kernel
theorem dX2_readStep_148 : decode cX2_readStep 148 = .ok (.putfield 37, 3) := by decide +kernel
theorem dX2_readStep_151 : decode cX2_readStep 151 = .ok (.aload_n 0, 1) := by decide +kernel
theorem dX2_readStep_152 : decode cX2_readStep 152 = .ok (.getfield 17, 3) := by decide +kernel
theorem dX2_readStep_155 : decode cX2_readStep 155 = .ok (.aload_n 0, 1) := by decide +kernel
theorem dX2_readStep_156 : decode cX2_readStep 156 = .ok (.getfield 27, 3) := by decide +kernel
theorem dX2_readStep_159 : decode cX2_readStep 159 = .ok (.aload_n 0, 1) := by decide +kernel
theorem dX2_readStep_160 : decode cX2_readStep 160 = .ok (.iconst 0, 1) := by decide +kernel
theorem dX2_readStep_161 : decode cX2_readStep 161 = .ok (.bipush 50, 2) := by decide +kernel
theorem dX2_readStep_163 : decode cX2_readStep 163 = .ok (.invokevirtual 56, 3) := by decide +kernel
theorem dX2_readStep_166 : decode cX2_readStep 166 = .ok (.iastore, 1) := by decide +kernel
theorem dX2_readStep_167 : decode cX2_readStep 167 = .ok (.aload_n 0, 1) := by decide +kernel
theorem dX2_readStep_168 : decode cX2_readStep 168 = .ok (.getfield 21, 3) := by decide +kernel
theorem dX2_readStep_171 : decode cX2_readStep 171 = .ok (.aload_n 0, 1) := by decide +kernel
theorem dX2_readStep_172 : decode cX2_readStep 172 = .ok (.getfield 27, 3) := by decide +kernel
theorem dX2_readStep_175 : decode cX2_readStep 175 = .ok (.aload_n 0, 1) := by decide +kernel
theorem dX2_readStep_176 : decode cX2_readStep 176 = .ok (.iconst 3, 1) := by decide +kernel
theorem dX2_readStep_177 : decode cX2_readStep 177 = .ok (.bipush 40, 2) := by decide +kernel
theorem dX2_readStep_179 : decode cX2_readStep 179 = .ok (.invokevirtual 56, 3) := by decide +kernel
theorem dX2_readStep_182 : decode cX2_readStep 182 = .ok (.iastore, 1) := by decide +kernel
theorem dX2_readStep_183 : decode cX2_readStep 183 = .ok (.goto 8, 3) := by decide +kernel
theorem dX2_readStep_186 : decode cX2_readStep 186 = .ok (.aload_n 0, 1) := by decide +kernel
theorem dX2_readStep_187 : decode cX2_readStep 187 = .ok (.iconst 1, 1) := by decide +kernel
theorem dX2_readStep_188 : decode cX2_readStep 188 = .ok (.putfield 40, 3) := by decide +kernel
theorem dX2_readStep_191 : decode cX2_readStep 191 = .ok (.aload_n 0, 1) := by decide +kernel
theorem dX2_readStep_192 : decode cX2_readStep 192 = .ok (.dup, 1) := by decide +kernel
theorem dX2_readStep_193 : decode cX2_readStep 193 = .ok (.getfield 27, 3) := by decide +kernel
theorem dX2_readStep_196 : decode cX2_readStep 196 = .ok (.iconst 1, 1) := by decide +kernel
theorem dX2_readStep_197 : decode cX2_readStep 197 = .ok (.iadd, 1) := by decide +kernel
theorem dX2_readStep_198 : decode cX2_readStep 198 = .ok (.putfield 27, 3) := by decide +kernel
theorem dX2_readStep_201 : decode cX2_readStep 201 = .ok (.return_, 1) := by decide +kernel
theorem dX2_readNumber_0 : decode cX2_readNumber 0 = .ok (.aload_n 0, 1) := by decide +kernel
theorem dX2_readNumber_1 : decode cX2_readNumber 1 = .ok (.getfield 40, 3) := by decide +kernel
theorem dX2_readNumber_4 : decode cX2_readNumber 4 = .ok (.ifCond .ne 10, 3) := by decide +kernel
theorem dX2_readNumber_7 : decode cX2_readNumber 7 = .ok (.aload_n 0, 1) := by decide +kernel
theorem dX2_readNumber_8 : decode cX2_readNumber 8 = .ok (.invokevirtual 49, 3) := by decide +kernel
theorem dX2_readNumber_11 : decode cX2_readNumber 11 = .ok (.ifCond .ne 10, 3) := by decide +kernel
theorem dX2_readNumber_14 : decode cX2_readNumber 14 = .ok (.aload_n 0, 1) := by decide +kernel
theorem dX2_readNumber_15 : decode cX2_readNumber 15 = .ok (.iconst 1, 1) := by decide +kernel
theorem dX2_readNumber_16 : decode cX2_readNumber 16 = .ok (.putfield 40, 3) := by decide +kernel
theorem dX2_readNumber_19 : decode cX2_readNumber 19 = .ok (.iconst 0, 1) := by decide +kernel
theorem dX2_readNumber_20 : decode cX2_readNumber 20 = .ok (.ireturn, 1) := by decide +kernel
theorem dX2_readNumber_21 : decode cX2_readNumber 21 = .ok (.aload_n 0, 1) := by decide +kernel
theorem dX2_readNumber_22 : decode cX2_readNumber 22 = .ok (.getfield 37, 3) := by decide +kernel
theorem dX2_readNumber_25 : decode cX2_readNumber 25 = .ok (.istore_n 3, 1) := by decide +kernel
theorem dX2_readNumber_26 : decode cX2_readNumber 26 = .ok (.iconst 0, 1) := by decide +kernel
theorem dX2_readNumber_27 : decode cX2_readNumber 27 = .ok (.istore 4, 2) := by decide +kernel
theorem dX2_readNumber_29 : decode cX2_readNumber 29 = .ok (.aload_n 0, 1) := by decide +kernel
theorem dX2_readNumber_30 : decode cX2_readNumber 30 = .ok (.getfield 37, 3) := by decide +kernel
theorem dX2_readNumber_33 : decode cX2_readNumber 33 = .ok (.aload_n 0, 1) := by decide +kernel
theorem dX2_readNumber_34 : decode cX2_readNumber 34 = .ok (.getfield 34, 3) := by decide +kernel
theorem dX2_readNumber_37 : decode cX2_readNumber 37 = .ok (.if_icmp .ge 61, 3) := by decide +kernel
theorem dX2_readNumber_40 : decode cX2_readNumber 40 = .ok (.aload_n 0, 1) := by decide +kernel
theorem dX2_readNumber_41 : decode cX2_readNumber 41 = .ok (.getfield 37, 3) := by decide +kernel
theorem dX2_readNumber_44 : decode cX2_readNumber 44 = .ok (.iload_n 3, 1) := by decide +kernel
theorem dX2_readNumber_45 : decode cX2_readNumber 45 = .ok (.isub, 1) := by decide +kernel
theorem dX2_readNumber_46 : decode cX2_readNumber 46 = .ok (.iconst 4, 1) := by decide +kernel
theorem dX2_readNumber_47 : decode cX2_readNumber 47 = .ok (.if_icmp .gt 51, 3) := by decide +kernel
theorem dX2_readNumber_50 : decode cX2_readNumber 50 = .ok (.aload_n 0, 1) := by decide +kernel
theorem dX2_readNumber_51 : decode cX2_readNumber 51 = .ok (.getfield 31, 3) := by decide +kernel
theorem dX2_readNumber_54 : decode cX2_readNumber 54 = .ok (.aload_n 0, 1) := by decide +kernel
theorem dX2_readNumber_55 : decode cX2_readNumber 55 = .ok (.getfield 37, 3) := by decide +kernel
theorem dX2_readNumber_58 : decode cX2_readNumber 58 = .ok (.caload, 1) := by decide +kernel
theorem dX2_readNumber_59 : decode cX2_readNumber 59 = .ok (.invokestatic 60, 3) := by decide +kernel
theorem dX2_readNumber_62 : decode cX2_readNumber 62 = .ok (.ifCond .eq 36, 3) := by decide +kernel
theorem dX2_readNumber_65 : decode cX2_readNumber 65 = .ok (.bipush 10, 2) := by decide +kernel
theorem dX2_readNumber_67 : decode cX2_readNumber 67 = .ok (.iload 4, 2) := by decide +kernel
theorem dX2_readNumber_69 : decode cX2_readNumber 69 = .ok (.imul, 1) := by decide +kernel
theorem dX2_readNumber_70 : decode cX2_readNumber 70 = .ok (.aload_n 0, 1) := by decide +kernel
theorem dX2_readNumber_71 : decode cX2_readNumber 71 = .ok (.getfield 31, 3) := by decide +kernel
theorem dX2_readNumber_74 : decode cX2_readNumber 74 = .ok (.aload_n 0, 1) := by decide +kernel
theorem dX2_readNumber_75 : decode cX2_readNumber 75 = .ok (.getfield 37, 3) := by decide +kernel
theorem dX2_readNumber_78 : decode cX2_readNumber 78 = .ok (.caload, 1) := by decide +kernel
theorem dX2_readNumber_79 : decode cX2_readNumber 79 = .ok (.iadd, 1) := by decide +kernel
theorem dX2_readNumber_80 : decode cX2_readNumber 80 = .ok (.bipush 48, 2) := by decide +kernel
theorem dX2_readNumber_82 : decode cX2_readNumber 82 = .ok (.isub, 1) := by decide +kernel
theorem dX2_readNumber_83 : decode cX2_readNumber 83 = .ok (.istore 4, 2) := by decide +kernel
theorem dX2_readNumber_85 : decode cX2_readNumber 85 = .ok (.aload_n 0, 1) := by decide +kernel
theorem dX2_readNumber_86 : decode cX2_readNumber 86 = .ok (.dup, 1) := by decide +kernel
theorem dX2_readNumber_87 : decode cX2_readNumber 87 = .ok (.getfield 37, 3) := by decide +kernel
theorem dX2_readNumber_90 : decode cX2_readNumber 90 = .ok (.iconst 1, 1) := by decide +kernel
theorem dX2_readNumber_91 : decode cX2_readNumber 91 = .ok (.iadd, 1) := by decide +kernel
theorem dX2_readNumber_92 : decode cX2_readNumber 92 = .ok (.putfield 37, 3) := by decide +kernel
theorem dX2_readNumber_95 : decode cX2_readNumber 95 = .ok (.goto (-66), 3) := by decide +kernel
theorem dX2_readNumber_98 : decode cX2_readNumber 98 = .ok (.aload_n 0, 1) := by decide +kernel
theorem dX2_readNumber_99 : decode cX2_readNumber 99 = .ok (.getfield 37, 3) := by decide +kernel
theorem dX2_readNumber_102 : decode cX2_readNumber 102 = .ok (.iload_n 3, 1) := by decide +kernel
theorem dX2_readNumber_103 : decode cX2_readNumber 103 = .ok (.isub, 1) := by decide +kernel
theorem dX2_readNumber_104 : decode cX2_readNumber 104 = .ok (.istore 5, 2) := by decide +kernel
theorem dX2_readNumber_106 : decode cX2_readNumber 106 = .ok (.iload 5, 2) := by decide +kernel
theorem dX2_readNumber_108 : decode cX2_readNumber 108 = .ok (.iconst 1, 1) := by decide +kernel
theorem dX2_readNumber_109 : decode cX2_readNumber 109 = .ok (.if_icmp .lt 21, 3) := by decide +kernel
theorem dX2_readNumber_112 : decode cX2_readNumber 112 = .ok (.iload 5, 2) := by decide +kernel
theorem dX2_readNumber_114 : decode cX2_readNumber 114 = .ok (.iconst 4, 1) := by decide +kernel
theorem dX2_readNumber_115 : decode cX2_readNumber 115 = .ok (.if_icmp .gt 15, 3) := by decide +kernel
theorem dX2_readNumber_118 : decode cX2_readNumber 118 = .ok (.iload 4, 2) := by decide +kernel
theorem dX2_readNumber_120 : decode cX2_readNumber 120 = .ok (.iload_n 1, 1) := by decide +kernel
theorem dX2_readNumber_121 : decode cX2_readNumber 121 = .ok (.if_icmp .lt 9, 3) := by decide +kernel
theorem dX2_readNumber_124 : decode cX2_readNumber 124 = .ok (.iload 4, 2) := by decide +kernel
theorem dX2_readNumber_126 : decode cX2_readNumber 126 = .ok (.iload_n 2, 1) := by decide +kernel
theorem dX2_readNumber_127 : decode cX2_readNumber 127 = .ok (.if_icmp .le 13, 3) := by decide +kernel
theorem dX2_readNumber_130 : decode cX2_readNumber 130 = .ok (.aload_n 0, 1) := by decide +kernel
theorem dX2_readNumber_131 : decode cX2_readNumber 131 = .ok (.iload_n 3, 1) := by decide +kernel
theorem dX2_readNumber_132 : decode cX2_readNumber 132 = .ok (.putfield 37, 3) := by decide +kernel
theorem dX2_readNumber_135 : decode cX2_readNumber 135 = .ok (.aload_n 0, 1) := by decide +kernel
theorem dX2_readNumber_136 : decode cX2_readNumber 136 = .ok (.iconst 1, 1) := by decide +kernel
theorem dX2_readNumber_137 : decode cX2_readNumber 137 = .ok (.putfield 40, 3) := by decide +kernel
theorem dX2_readNumber_140 : decode cX2_readNumber 140 = .ok (.iload 4, 2) := by decide +kernel
theorem dX2_readNumber_142 : decode cX2_readNumber 142 = .ok (.ireturn, 1) := by decide +kernel
theorem dX2_isDigit_0 : decode cX2_isDigit 0 = .ok (.iload_n 0, 1) := by decide +kernel
theorem dX2_isDigit_1 : decode cX2_isDigit 1 = .ok (.bipush 48, 2) := by decide +kernel
theorem dX2_isDigit_3 : decode cX2_isDigit 3 = .ok (.if_icmp .lt 13, 3) := by decide +kernel
theorem dX2_isDigit_6 : decode cX2_isDigit 6 = .ok (.iload_n 0, 1) := by decide +kernel
theorem dX2_isDigit_7 : decode cX2_isDigit 7 = .ok (.bipush 57, 2) := by decide +kernel
theorem dX2_isDigit_9 : decode cX2_isDigit 9 = .ok (.if_icmp .gt 7, 3) := by decide +kernel
theorem dX2_isDigit_12 : decode cX2_isDigit 12 = .ok (.iconst 1, 1) := by decide +kernel
theorem dX2_isDigit_13 : decode cX2_isDigit 13 = .ok (.goto 4, 3) := by decide +kernel
theorem dX2_isDigit_16 : decode cX2_isDigit 16 = .ok (.iconst 0, 1) := by decide +kernel
theorem dX2_isDigit_17 : decode cX2_isDigit 17 = .ok (.ireturn, 1) := by decide +kernel
theorem dX3_init_0 : decode cX3_init 0 = .ok (.aload_n 0, 1) := by decide +kernel
theorem dX3_init_1 : decode cX3_init 1 = .ok (.invokespecial 5, 3) := by decide +kernel
theorem dX3_init_4 : decode cX3_init 4 = .ok (.aload_n 0, 1) := by decide +kernel
theorem dX3_init_5 : decode cX3_init 5 = .ok (.sipush 450, 3) := by decide +kernel
theorem dX3_init_8 : decode cX3_init 8 = .ok (.newarray .boolean, 2) := by decide +kernel
theorem dX3_init_10 : decode cX3_init 10 = .ok (.putfield 11, 3) := by decide +kernel
theorem dX3_init_13 : decode cX3_init 13 = .ok (.aload_n 0, 1) := by decide +kernel
theorem dX3_init_14 : decode cX3_init 14 = .ok (.sipush 450, 3) := by decide +kernel
theorem dX3_init_17 : decode cX3_init 17 = .ok (.newarray .int, 2) := by decide +kernel
theorem dX3_init_19 : decode cX3_init 19 = .ok (.putfield 15, 3) := by decide +kernel
theorem dX3_init_22 : decode cX3_init 22 = .ok (.aload_n 0, 1) := by decide +kernel
theorem dX3_init_23 : decode cX3_init 23 = .ok (.iconst 0, 1) := by decide +kernel
theorem dX3_init_24 : decode cX3_init 24 = .ok (.putfield 19, 3) := by decide +kernel
theorem dX3_init_27 : decode cX3_init 27 = .ok (.return_, 1) := by decide +kernel
theorem dX3_countLines_0 : decode cX3_countLines 0 = .ok (.iconst 0, 1) := by decide +kernel
theorem dX3_countLines_1 : decode cX3_countLines 1 = .ok (.istore 4, 2) := by decide +kernel
theorem dX3_countLines_3 : decode cX3_countLines 3 = .ok (.iload 4, 2) := by decide +kernel
theorem dX3_countLines_5 : decode cX3_countLines 5 = .ok (.sipush 450, 3) := by decide +kernel
theorem dX3_countLines_8 : decode cX3_countLines 8 = .ok (.if_icmp .ge 17, 3) := by decide +kernel
theorem dX3_countLines_11 : decode cX3_countLines 11 = .ok (.aload_n 0, 1) := by decide +kernel
theorem dX3_countLines_12 : decode cX3_countLines 12 = .ok (.getfield 11, 3) := by decide +kernel
theorem dX3_countLines_15 : decode cX3_countLines 15 = .ok (.iload 4, 2) := by decide +kernel
theorem dX3_countLines_17 : decode cX3_countLines 17 = .ok (.iconst 0, 1) := by decide +kernel
theorem dX3_countLines_18 : decode cX3_countLines 18 = .ok (.bastore, 1) := by decide +kernel
theorem dX3_countLines_19 : decode cX3_countLines 19 = .ok (.iinc 4 1, 3) := by decide +kernel
theorem dX3_countLines_22 : decode cX3_countLines 22 = .ok (.goto (-19), 3) := by decide +kernel
theorem dX3_countLines_25 : decode cX3_countLines 25 = .ok (.iconst 0, 1) := by decide +kernel
theorem dX3_countLines_26 : decode cX3_countLines 26 = .ok (.istore 4, 2) := by decide +kernel
theorem dX3_countLines_28 : decode cX3_countLines 28 = .ok (.iconst 0, 1) := by decide +kernel
theorem dX3_countLines_29 : decode cX3_countLines 29 = .ok (.istore 5, 2) := by decide +kernel
theorem dX3_countLines_31 : decode cX3_countLines 31 = .ok (.iload 5, 2) := by decide +kernel
theorem dX3_countLines_33 : decode cX3_countLines 33 = .ok (.sipush 450, 3) := by decide +kernel
theorem dX3_countLines_36 : decode cX3_countLines 36 = .ok (.if_icmp .ge 52, 3) := by decide +kernel
theorem dX3_countLines_39 : decode cX3_countLines 39 = .ok (.aload_n 0, 1) := by decide +kernel
theorem dX3_countLines_40 : decode cX3_countLines 40 = .ok (.getfield 11, 3) := by decide +kernel
theorem dX3_countLines_43 : decode cX3_countLines 43 = .ok (.iload 5, 2) := by decide +kernel
theorem dX3_countLines_45 : decode cX3_countLines 45 = .ok (.baload, 1) := by decide +kernel
theorem dX3_countLines_46 : decode cX3_countLines 46 = .ok (.ifCond .ne 36, 3) := by decide +kernel
theorem dX3_countLines_49 : decode cX3_countLines 49 = .ok (.aload_n 0, 1) := by decide +kernel
theorem dX3_countLines_50 : decode cX3_countLines 50 = .ok (.aload_n 1, 1) := by decide +kernel
theorem dX3_countLines_51 : decode cX3_countLines 51 = .ok (.iload_n 2, 1) := by decide +kernel
theorem dX3_countLines_52 : decode cX3_countLines 52 = .ok (.iload 5, 2) := by decide +kernel
theorem dX3_countLines_54 : decode cX3_countLines 54 = .ok (.invokevirtual 23, 3) := by decide +kernel
theorem dX3_countLines_57 : decode cX3_countLines 57 = .ok (.ifCond .eq 25, 3) := by decide +kernel
theorem dX3_countLines_60 : decode cX3_countLines 60 = .ok (.aload_n 0, 1) := by decide +kernel
theorem dX3_countLines_61 : decode cX3_countLines 61 = .ok (.aload_n 1, 1) := by decide +kernel
theorem dX3_countLines_62 : decode cX3_countLines 62 = .ok (.iload_n 2, 1) := by decide +kernel
theorem dX3_countLines_63 : decode cX3_countLines 63 = .ok (.iload 5, 2) := by decide +kernel
theorem dX3_countLines_65 : decode cX3_countLines 65 = .ok (.invokevirtual 27, 3) := by decide +kernel
theorem dX3_countLines_68 : decode cX3_countLines 68 = .ok (.istore 6, 2) := by decide +kernel
theorem dX3_countLines_70 : decode cX3_countLines 70 = .ok (.iload 6, 2) := by decide +kernel
theorem dX3_countLines_72 : decode cX3_countLines 72 = .ok (.ifCond .ne 7, 3) := by decide +kernel
theorem dX3_countLines_75 : decode cX3_countLines 75 = .ok (.iload_n 3, 1) := by decide +kernel
theorem dX3_countLines_76 : decode cX3_countLines 76 = .ok (.ifCond .ne 6, 3) := by decide +kernel
theorem dX3_countLines_79 : decode cX3_countLines 79 = .ok (.iinc 4 1, 3) := by decide +kernel
theorem dX3_countLines_82 : decode cX3_countLines 82 = .ok (.iinc 5 1, 3) := by decide +kernel
theorem dX3_countLines_85 : decode cX3_countLines 85 = .ok (.goto (-54), 3) := by decide +kernel
theorem dX3_countLines_88 : decode cX3_countLines 88 = .ok (.iload 4, 2) := by decide +kernel
theorem dX3_countLines_90 : decode cX3_countLines 90 = .ok (.ireturn, 1) := by decide +kernel
theorem dX3_walkFrom_0 : decode cX3_walkFrom 0 = .ok (.iconst 1, 1) := by decide +kernel
theorem dX3_walkFrom_1 : decode cX3_walkFrom 1 = .ok (.istore 4, 2) := by decide +kernel
theorem dX3_walkFrom_3 : decode cX3_walkFrom 3 = .ok (.aload_n 0, 1) := by decide +kernel
theorem dX3_walkFrom_4 : decode cX3_walkFrom 4 = .ok (.iconst 0, 1) := by decide +kernel
theorem dX3_walkFrom_5 : decode cX3_walkFrom 5 = .ok (.putfield 19, 3) := by decide +kernel
theorem dX3_walkFrom_8 : decode cX3_walkFrom 8 = .ok (.aload_n 0, 1) := by decide +kernel
theorem dX3_walkFrom_9 : decode cX3_walkFrom 9 = .ok (.iload_n 3, 1) := by decide +kernel
theorem dX3_walkFrom_10 : decode cX3_walkFrom 10 = .ok (.invokevirtual 30, 3) := by decide +kernel
theorem dX3_walkFrom_13 : decode cX3_walkFrom 13 = .ok (.iconst 0, 1) := by decide +kernel
theorem dX3_walkFrom_14 : decode cX3_walkFrom 14 = .ok (.istore 5, 2) := by decide +kernel
theorem dX3_walkFrom_16 : decode cX3_walkFrom 16 = .ok (.iload 5, 2) := by decide +kernel
theorem dX3_walkFrom_18 : decode cX3_walkFrom 18 = .ok (.aload_n 0, 1) := by decide +kernel
theorem dX3_walkFrom_19 : decode cX3_walkFrom 19 = .ok (.getfield 19, 3) := by decide +kernel
theorem dX3_walkFrom_22 : decode cX3_walkFrom 22 = .ok (.if_icmp .ge 84, 3) := by decide +kernel
theorem dX3_walkFrom_25 : decode cX3_walkFrom 25 = .ok (.iload 5, 2) := by decide +kernel
theorem dX3_walkFrom_27 : decode cX3_walkFrom 27 = .ok (.sipush 450, 3) := by decide +kernel
theorem dX3_walkFrom_30 : decode cX3_walkFrom 30 = .ok (.if_icmp .ge 76, 3) := by decide +kernel
theorem dX3_walkFrom_33 : decode cX3_walkFrom 33 = .ok (.iconst 0, 1) := by decide +kernel
theorem dX3_walkFrom_34 : decode cX3_walkFrom 34 = .ok (.istore 6, 2) := by decide +kernel
theorem dX3_walkFrom_36 : decode cX3_walkFrom 36 = .ok (.iload 6, 2) := by decide +kernel
theorem dX3_walkFrom_38 : decode cX3_walkFrom 38 = .ok (.iconst 3, 1) := by decide +kernel
theorem dX3_walkFrom_39 : decode cX3_walkFrom 39 = .ok (.if_icmp .ge 61, 3) := by decide +kernel
theorem dX3_walkFrom_42 : decode cX3_walkFrom 42 = .ok (.aload_n 0, 1) := by decide +kernel
theorem dX3_walkFrom_43 : decode cX3_walkFrom 43 = .ok (.aload_n 1, 1) := by decide +kernel
theorem dX3_walkFrom_44 : decode cX3_walkFrom 44 = .ok (.iload_n 2, 1) := by decide +kernel
theorem dX3_walkFrom_45 : decode cX3_walkFrom 45 = .ok (.aload_n 0, 1) := by decide +kernel
theorem dX3_walkFrom_46 : decode cX3_walkFrom 46 = .ok (.getfield 15, 3) := by decide +kernel
theorem dX3_walkFrom_49 : decode cX3_walkFrom 49 = .ok (.iload 5, 2) := by decide +kernel
theorem dX3_walkFrom_51 : decode cX3_walkFrom 51 = .ok (.iaload, 1) := by decide +kernel
theorem dX3_walkFrom_52 : decode cX3_walkFrom 52 = .ok (.iload 6, 2) := by decide +kernel
theorem dX3_walkFrom_54 : decode cX3_walkFrom 54 = .ok (.invokevirtual 34, 3) := by decide +kernel
theorem dX3_walkFrom_57 : decode cX3_walkFrom 57 = .ok (.ifCond .eq 37, 3) := by decide +kernel
theorem dX3_walkFrom_60 : decode cX3_walkFrom 60 = .ok (.aload_n 0, 1) := by decide +kernel
theorem dX3_walkFrom_61 : decode cX3_walkFrom 61 = .ok (.aload_n 1, 1) := by decide +kernel
theorem dX3_walkFrom_62 : decode cX3_walkFrom 62 = .ok (.aload_n 0, 1) := by decide +kernel
theorem dX3_walkFrom_63 : decode cX3_walkFrom 63 = .ok (.getfield 15, 3) := by decide +kernel
theorem dX3_walkFrom_66 : decode cX3_walkFrom 66 = .ok (.iload 5, 2) := by decide +kernel
theorem dX3_walkFrom_68 : decode cX3_walkFrom 68 = .ok (.iaload, 1) := by decide +kernel
theorem dX3_walkFrom_69 : decode cX3_walkFrom 69 = .ok (.iload 6, 2) := by decide +kernel
theorem dX3_walkFrom_71 : decode cX3_walkFrom 71 = .ok (.invokevirtual 38, 3) := by decide +kernel
theorem dX3_walkFrom_74 : decode cX3_walkFrom 74 = .ok (.istore 7, 2) := by decide +kernel
theorem dX3_walkFrom_76 : decode cX3_walkFrom 76 = .ok (.iload 7, 2) := by decide +kernel
theorem dX3_walkFrom_78 : decode cX3_walkFrom 78 = .ok (.iconst (-1), 1) := by decide +kernel
theorem dX3_walkFrom_79 : decode cX3_walkFrom 79 = .ok (.if_icmp .ne 9, 3) := by decide +kernel
theorem dX3_walkFrom_82 : decode cX3_walkFrom 82 = .ok (.iconst 0, 1) := by decide +kernel
theorem dX3_walkFrom_83 : decode cX3_walkFrom 83 = .ok (.istore 4, 2) := by decide +kernel
theorem dX3_walkFrom_85 : decode cX3_walkFrom 85 = .ok (.goto 9, 3) := by decide +kernel
theorem dX3_walkFrom_88 : decode cX3_walkFrom 88 = .ok (.aload_n 0, 1) := by decide +kernel
theorem dX3_walkFrom_89 : decode cX3_walkFrom 89 = .ok (.iload 7, 2) := by decide +kernel
theorem dX3_walkFrom_91 : decode cX3_walkFrom 91 = .ok (.invokevirtual 30, 3) := by decide +kernel
theorem dX3_walkFrom_94 : decode cX3_walkFrom 94 = .ok (.iinc 6 1, 3) := by decide +kernel
theorem dX3_walkFrom_97 : decode cX3_walkFrom 97 = .ok (.goto (-61), 3) := by decide +kernel
theorem dX3_walkFrom_100 : decode cX3_walkFrom 100 = .ok (.iinc 5 1, 3) := by decide +kernel
theorem dX3_walkFrom_103 : decode cX3_walkFrom 103 = .ok (.goto (-87), 3) := by decide +kernel
theorem dX3_walkFrom_106 : decode cX3_walkFrom 106 = .ok (.iload 4, 2) := by decide +kernel
theorem dX3_walkFrom_108 : decode cX3_walkFrom 108 = .ok (.ireturn, 1) := by decide +kernel
theorem dX3_enqueue_0 : decode cX3_enqueue 0 = .ok (.aload_n 0, 1) := by decide +kernel
theorem dX3_enqueue_1 : decode cX3_enqueue 1 = .ok (.getfield 11, 3) := by decide +kernel
theorem dX3_enqueue_4 : decode cX3_enqueue 4 = .ok (.iload_n 1, 1) := by decide +kernel
theorem dX3_enqueue_5 : decode cX3_enqueue 5 = .ok (.baload, 1) := by decide +kernel
theorem dX3_enqueue_6 : decode cX3_enqueue 6 = .ok (.ifCond .ne 40, 3) := by decide +kernel
theorem dX3_enqueue_9 : decode cX3_enqueue 9 = .ok (.aload_n 0, 1) := by decide +kernel
theorem dX3_enqueue_10 : decode cX3_enqueue 10 = .ok (.getfield 19, 3) := by decide +kernel
theorem dX3_enqueue_13 : decode cX3_enqueue 13 = .ok (.sipush 450, 3) := by decide +kernel
theorem dX3_enqueue_16 : decode cX3_enqueue 16 = .ok (.if_icmp .ge 30, 3) := by decide +kernel
theorem dX3_enqueue_19 : decode cX3_enqueue 19 = .ok (.aload_n 0, 1) := by decide +kernel
theorem dX3_enqueue_20 : decode cX3_enqueue 20 = .ok (.getfield 11, 3) := by decide +kernel
theorem dX3_enqueue_23 : decode cX3_enqueue 23 = .ok (.iload_n 1, 1) := by decide +kernel
theorem dX3_enqueue_24 : decode cX3_enqueue 24 = .ok (.iconst 1, 1) := by decide +kernel
theorem dX3_enqueue_25 : decode cX3_enqueue 25 = .ok (.bastore, 1) := by decide +kernel
theorem dX3_enqueue_26 : decode cX3_enqueue 26 = .ok (.aload_n 0, 1) := by decide +kernel
theorem dX3_enqueue_27 : decode cX3_enqueue 27 = .ok (.getfield 15, 3) := by decide +kernel
theorem dX3_enqueue_30 : decode cX3_enqueue 30 = .ok (.aload_n 0, 1) := by decide +kernel
theorem dX3_enqueue_31 : decode cX3_enqueue 31 = .ok (.getfield 19, 3) := by decide +kernel
theorem dX3_enqueue_34 : decode cX3_enqueue 34 = .ok (.iload_n 1, 1) := by decide +kernel
theorem dX3_enqueue_35 : decode cX3_enqueue 35 = .ok (.iastore, 1) := by decide +kernel
theorem dX3_enqueue_36 : decode cX3_enqueue 36 = .ok (.aload_n 0, 1) := by decide +kernel
theorem dX3_enqueue_37 : decode cX3_enqueue 37 = .ok (.dup, 1) := by decide +kernel
theorem dX3_enqueue_38 : decode cX3_enqueue 38 = .ok (.getfield 19, 3) := by decide +kernel
theorem dX3_enqueue_41 : decode cX3_enqueue 41 = .ok (.iconst 1, 1) := by decide +kernel
theorem dX3_enqueue_42 : decode cX3_enqueue 42 = .ok (.iadd, 1) := by decide +kernel
theorem dX3_enqueue_43 : decode cX3_enqueue 43 = .ok (.putfield 19, 3) := by decide +kernel
theorem dX3_enqueue_46 : decode cX3_enqueue 46 = .ok (.return_, 1) := by decide +kernel
theorem dX3_isCrossed_0 : decode cX3_isCrossed 0 = .ok (.aload_n 1, 1) := by decide +kernel
theorem dX3_isCrossed_1 : decode cX3_isCrossed 1 = .ok (.aload_n 0, 1) := by decide +kernel
theorem dX3_isCrossed_2 : decode cX3_isCrossed 2 = .ok (.iload_n 3, 1) := by decide +kernel
theorem dX3_isCrossed_3 : decode cX3_isCrossed 3 = .ok (.invokevirtual 42, 3) := by decide +kernel
theorem dX3_isCrossed_6 : decode cX3_isCrossed 6 = .ok (.aload_n 0, 1) := by decide +kernel
theorem dX3_isCrossed_7 : decode cX3_isCrossed 7 = .ok (.iload_n 3, 1) := by decide +kernel
theorem dX3_isCrossed_8 : decode cX3_isCrossed 8 = .ok (.invokevirtual 46, 3) := by decide +kernel
theorem dX3_isCrossed_11 : decode cX3_isCrossed 11 = .ok (.invokevirtual 49, 3) := by decide +kernel
theorem dX3_isCrossed_14 : decode cX3_isCrossed 14 = .ok (.ifCond .ne 5, 3) := by decide +kernel
theorem dX3_isCrossed_17 : decode cX3_isCrossed 17 = .ok (.iconst 0, 1) := by decide +kernel
theorem dX3_isCrossed_18 : decode cX3_isCrossed 18 = .ok (.ireturn, 1) := by decide +kernel
theorem dX3_isCrossed_19 : decode cX3_isCrossed 19 = .ok (.aload_n 0, 1) := by decide +kernel
theorem dX3_isCrossed_20 : decode cX3_isCrossed 20 = .ok (.aload_n 1, 1) := by decide +kernel
theorem dX3_isCrossed_21 : decode cX3_isCrossed 21 = .ok (.iload_n 2, 1) := by decide +kernel
theorem dX3_isCrossed_22 : decode cX3_isCrossed 22 = .ok (.iload_n 3, 1) := by decide +kernel
theorem dX3_isCrossed_23 : decode cX3_isCrossed 23 = .ok (.iconst 0, 1) := by decide +kernel
theorem dX3_isCrossed_24 : decode cX3_isCrossed 24 = .ok (.invokevirtual 53, 3) := by decide +kernel
theorem dX3_isCrossed_27 : decode cX3_isCrossed 27 = .ok (.istore 4, 2) := by decide +kernel
theorem dX3_isCrossed_29 : decode cX3_isCrossed 29 = .ok (.aload_n 0, 1) := by decide +kernel
theorem dX3_isCrossed_30 : decode cX3_isCrossed 30 = .ok (.aload_n 1, 1) := by decide +kernel
theorem dX3_isCrossed_31 : decode cX3_isCrossed 31 = .ok (.iload_n 2, 1) := by decide +kernel
theorem dX3_isCrossed_32 : decode cX3_isCrossed 32 = .ok (.iload_n 3, 1) := by decide +kernel
theorem dX3_isCrossed_33 : decode cX3_isCrossed 33 = .ok (.iconst 1, 1) := by decide +kernel
theorem dX3_isCrossed_34 : decode cX3_isCrossed 34 = .ok (.invokevirtual 53, 3) := by decide +kernel
theorem dX3_isCrossed_37 : decode cX3_isCrossed 37 = .ok (.iload 4, 2) := by decide +kernel
theorem dX3_isCrossed_39 : decode cX3_isCrossed 39 = .ok (.if_icmp .ne 16, 3) := by decide +kernel
theorem dX3_isCrossed_42 : decode cX3_isCrossed 42 = .ok (.aload_n 0, 1) := by decide +kernel
theorem dX3_isCrossed_43 : decode cX3_isCrossed 43 = .ok (.aload_n 1, 1) := by decide +kernel
theorem dX3_isCrossed_44 : decode cX3_isCrossed 44 = .ok (.iload_n 2, 1) := by decide +kernel
theorem dX3_isCrossed_45 : decode cX3_isCrossed 45 = .ok (.iload_n 3, 1) := by decide +kernel
theorem dX3_isCrossed_46 : decode cX3_isCrossed 46 = .ok (.iconst 2, 1) := by decide +kernel
theorem dX3_isCrossed_47 : decode cX3_isCrossed 47 = .ok (.invokevirtual 53, 3) := by decide +kernel
theorem dX3_isCrossed_50 : decode cX3_isCrossed 50 = .ok (.iload 4, 2) := by decide +kernel
theorem dX3_isCrossed_52 : decode cX3_isCrossed 52 = .ok (.if_icmp .eq 7, 3) := by decide +kernel
theorem dX3_isCrossed_55 : decode cX3_isCrossed 55 = .ok (.iconst 1, 1) := by decide +kernel
theorem dX3_isCrossed_56 : decode cX3_isCrossed 56 = .ok (.goto 4, 3) := by decide +kernel
theorem dX3_isCrossed_59 : decode cX3_isCrossed 59 = .ok (.iconst 0, 1) := by decide +kernel
theorem dX3_isCrossed_60 : decode cX3_isCrossed 60 = .ok (.ireturn, 1) := by decide +kernel
theorem dX3_isEdgeCrossed_0 : decode cX3_isEdgeCrossed 0 = .ok (.aload_n 0, 1) := by decide +kernel
theorem dX3_isEdgeCrossed_1 : decode cX3_isEdgeCrossed 1 = .ok (.aload_n 1, 1) := by decide +kernel
theorem dX3_isEdgeCrossed_2 : decode cX3_isEdgeCrossed 2 = .ok (.iload_n 2, 1) := by decide +kernel
theorem dX3_isEdgeCrossed_3 : decode cX3_isEdgeCrossed 3 = .ok (.iload_n 3, 1) := by decide +kernel
theorem dX3_isEdgeCrossed_4 : decode cX3_isEdgeCrossed 4 = .ok (.iload 4, 2) := by decide +kernel
theorem dX3_isEdgeCrossed_6 : decode cX3_isEdgeCrossed 6 = .ok (.invokevirtual 53, 3) := by decide +kernel
theorem dX3_isEdgeCrossed_9 : decode cX3_isEdgeCrossed 9 = .ok (.aload_n 0, 1) := by decide +kernel
theorem dX3_isEdgeCrossed_10 : decode cX3_isEdgeCrossed 10 = .ok (.aload_n 1, 1) := by decide +kernel
theorem dX3_isEdgeCrossed_11 : decode cX3_isEdgeCrossed 11 = .ok (.iload_n 2, 1) := by decide +kernel
theorem dX3_isEdgeCrossed_12 : decode cX3_isEdgeCrossed 12 = .ok (.iload_n 3, 1) := by decide +kernel
theorem dX3_isEdgeCrossed_13 : decode cX3_isEdgeCrossed 13 = .ok (.iload 4, 2) := by decide +kernel
theorem dX3_isEdgeCrossed_15 : decode cX3_isEdgeCrossed 15 = .ok (.iconst 1, 1) := by decide +kernel
theorem dX3_isEdgeCrossed_16 : decode cX3_isEdgeCrossed 16 = .ok (.iadd, 1) := by decide +kernel
theorem dX3_isEdgeCrossed_17 : decode cX3_isEdgeCrossed 17 = .ok (.iconst 3, 1) := by decide +kernel
theorem dX3_isEdgeCrossed_18 : decode cX3_isEdgeCrossed 18 = .ok (.irem, 1) := by decide +kernel
theorem dX3_isEdgeCrossed_19 : decode cX3_isEdgeCrossed 19 = .ok (.invokevirtual 53, 3) := by decide +kernel
theorem dX3_isEdgeCrossed_22 : decode cX3_isEdgeCrossed 22 = .ok (.if_icmp .eq 7, 3) := by decide +kernel
theorem dX3_isEdgeCrossed_25 : decode cX3_isEdgeCrossed 25 = .ok (.iconst 1, 1) := by decide +kernel
theorem dX3_isEdgeCrossed_26 : decode cX3_isEdgeCrossed 26 = .ok (.goto 4, 3) := by decide +kernel
theorem dX3_isEdgeCrossed_29 : decode cX3_isEdgeCrossed 29 = .ok (.iconst 0, 1) := by decide +kernel
theorem dX3_isEdgeCrossed_30 : decode cX3_isEdgeCrossed 30 = .ok (.ireturn, 1) := by decide +kernel
theorem dX3_isAbove_0 : decode cX3_isAbove 0 = .ok (.aload_n 0, 1) := by decide +kernel
theorem dX3_isAbove_1 : decode cX3_isAbove 1 = .ok (.iload_n 3, 1) := by decide +kernel
theorem dX3_isAbove_2 : decode cX3_isAbove 2 = .ok (.invokevirtual 42, 3) := by decide +kernel
theorem dX3_isAbove_5 : decode cX3_isAbove 5 = .ok (.istore 5, 2) := by decide +kernel
theorem dX3_isAbove_7 : decode cX3_isAbove 7 = .ok (.aload_n 0, 1) := by decide +kernel
theorem dX3_isAbove_8 : decode cX3_isAbove 8 = .ok (.iload_n 3, 1) := by decide +kernel
theorem dX3_isAbove_9 : decode cX3_isAbove 9 = .ok (.invokevirtual 46, 3) := by decide +kernel
theorem dX3_isAbove_12 : decode cX3_isAbove 12 = .ok (.istore 6, 2) := by decide +kernel
theorem dX3_isAbove_14 : decode cX3_isAbove 14 = .ok (.iload 4, 2) := by decide +kernel
theorem dX3_isAbove_16 : decode cX3_isAbove 16 = .ok (.iconst 2, 1) := by decide +kernel
theorem dX3_isAbove_17 : decode cX3_isAbove 17 = .ok (.if_icmp .eq 17, 3) := by decide +kernel
theorem dX3_isAbove_20 : decode cX3_isAbove 20 = .ok (.iload 4, 2) := by decide +kernel
theorem dX3_isAbove_22 : decode cX3_isAbove 22 = .ok (.iconst 1, 1) := by decide +kernel
theorem dX3_isAbove_23 : decode cX3_isAbove 23 = .ok (.if_icmp .ne 14, 3) := by decide +kernel
theorem dX3_isAbove_26 : decode cX3_isAbove 26 = .ok (.aload_n 0, 1) := by decide +kernel
theorem dX3_isAbove_27 : decode cX3_isAbove 27 = .ok (.iload_n 3, 1) := by decide +kernel
theorem dX3_isAbove_28 : decode cX3_isAbove 28 = .ok (.invokevirtual 56, 3) := by decide +kernel
theorem dX3_isAbove_31 : decode cX3_isAbove 31 = .ok (.ifCond .ne 6, 3) := by decide +kernel
theorem dX3_isAbove_34 : decode cX3_isAbove 34 = .ok (.iinc 5 1, 3) := by decide +kernel
theorem dX3_isAbove_37 : decode cX3_isAbove 37 = .ok (.iload 4, 2) := by decide +kernel
theorem dX3_isAbove_39 : decode cX3_isAbove 39 = .ok (.iconst 2, 1) := by decide +kernel
theorem dX3_isAbove_40 : decode cX3_isAbove 40 = .ok (.if_icmp .eq 17, 3) := by decide +kernel
theorem dX3_isAbove_43 : decode cX3_isAbove 43 = .ok (.iload 4, 2) := by decide +kernel
theorem dX3_isAbove_45 : decode cX3_isAbove 45 = .ok (.iconst 1, 1) := by decide +kernel
theorem dX3_isAbove_46 : decode cX3_isAbove 46 = .ok (.if_icmp .ne 14, 3) := by decide +kernel
theorem dX3_isAbove_49 : decode cX3_isAbove 49 = .ok (.aload_n 0, 1) := by decide +kernel
theorem dX3_isAbove_50 : decode cX3_isAbove 50 = .ok (.iload_n 3, 1) := by decide +kernel
theorem dX3_isAbove_51 : decode cX3_isAbove 51 = .ok (.invokevirtual 56, 3) := by decide +kernel
theorem dX3_isAbove_54 : decode cX3_isAbove 54 = .ok (.ifCond .eq 6, 3) := by decide +kernel
theorem dX3_isAbove_57 : decode cX3_isAbove 57 = .ok (.iinc 6 1, 3) := by decide +kernel
theorem dX3_isAbove_60 : decode cX3_isAbove 60 = .ok (.aload_n 1, 1) := by decide +kernel
theorem dX3_isAbove_61 : decode cX3_isAbove 61 = .ok (.iload 5, 2) := by decide +kernel
theorem dX3_isAbove_63 : decode cX3_isAbove 63 = .ok (.iload 6, 2) := by decide +kernel
theorem dX3_isAbove_65 : decode cX3_isAbove 65 = .ok (.invokevirtual 60, 3) := by decide +kernel
theorem dX3_isAbove_68 : decode cX3_isAbove 68 = .ok (.iload_n 2, 1) := by decide +kernel
theorem dX3_isAbove_69 : decode cX3_isAbove 69 = .ok (.if_icmp .lt 7, 3) := by decide +kernel
theorem dX3_isAbove_72 : decode cX3_isAbove 72 = .ok (.iconst 1, 1) := by decide +kernel
theorem dX3_isAbove_73 : decode cX3_isAbove 73 = .ok (.goto 4, 3) := by decide +kernel
theorem dX3_isAbove_76 : decode cX3_isAbove 76 = .ok (.iconst 0, 1) := by decide +kernel
theorem dX3_isAbove_77 : decode cX3_isAbove 77 = .ok (.ireturn, 1) := by decide +kernel
theorem dX3_beyond_0 : decode cX3_beyond 0 = .ok (.aload_n 0, 1) := by decide +kernel
theorem dX3_beyond_1 : decode cX3_beyond 1 = .ok (.iload_n 2, 1) := by decide +kernel
theorem dX3_beyond_2 : decode cX3_beyond 2 = .ok (.invokevirtual 42, 3) := by decide +kernel
theorem dX3_beyond_5 : decode cX3_beyond 5 = .ok (.istore 4, 2) := by decide +kernel
theorem dX3_beyond_7 : decode cX3_beyond 7 = .ok (.aload_n 0, 1) := by decide +kernel
theorem dX3_beyond_8 : decode cX3_beyond 8 = .ok (.iload_n 2, 1) := by decide +kernel
theorem dX3_beyond_9 : decode cX3_beyond 9 = .ok (.invokevirtual 46, 3) := by decide +kernel
theorem dX3_beyond_12 : decode cX3_beyond 12 = .ok (.istore 5, 2) := by decide +kernel
theorem dX3_beyond_14 : decode cX3_beyond 14 = .ok (.aload_n 0, 1) := by decide +kernel
theorem dX3_beyond_15 : decode cX3_beyond 15 = .ok (.iload_n 2, 1) := by decide +kernel
theorem dX3_beyond_16 : decode cX3_beyond 16 = .ok (.invokevirtual 56, 3) := by decide +kernel
theorem dX3_beyond_19 : decode cX3_beyond 19 = .ok (.istore 6, 2) := by decide +kernel
theorem dX3_beyond_21 : decode cX3_beyond 21 = .ok (.iload_n 3, 1) := by decide +kernel
theorem dX3_beyond_22 : decode cX3_beyond 22 = .ok (.ifCond .ne 36, 3) := by decide +kernel
theorem dX3_beyond_25 : decode cX3_beyond 25 = .ok (.iload 6, 2) := by decide +kernel
theorem dX3_beyond_27 : decode cX3_beyond 27 = .ok (.ifCond .eq 18, 3) := by decide +kernel
theorem dX3_beyond_30 : decode cX3_beyond 30 = .ok (.aload_n 0, 1) := by decide +kernel
theorem dX3_beyond_31 : decode cX3_beyond 31 = .ok (.aload_n 1, 1) := by decide +kernel
theorem dX3_beyond_32 : decode cX3_beyond 32 = .ok (.iload 4, 2) := by decide +kernel
theorem dX3_beyond_34 : decode cX3_beyond 34 = .ok (.iconst 1, 1) := by decide +kernel
theorem dX3_beyond_35 : decode cX3_beyond 35 = .ok (.isub, 1) := by decide +kernel
theorem dX3_beyond_36 : decode cX3_beyond 36 = .ok (.iload 5, 2) := by decide +kernel
theorem dX3_beyond_38 : decode cX3_beyond 38 = .ok (.iconst 0, 1) := by decide +kernel
theorem dX3_beyond_39 : decode cX3_beyond 39 = .ok (.invokevirtual 64, 3) := by decide +kernel
theorem dX3_beyond_42 : decode cX3_beyond 42 = .ok (.goto 15, 3) := by decide +kernel
theorem dX3_beyond_45 : decode cX3_beyond 45 = .ok (.aload_n 0, 1) := by decide +kernel
theorem dX3_beyond_46 : decode cX3_beyond 46 = .ok (.aload_n 1, 1) := by decide +kernel
theorem dX3_beyond_47 : decode cX3_beyond 47 = .ok (.iload 4, 2) := by decide +kernel
theorem dX3_beyond_49 : decode cX3_beyond 49 = .ok (.iload 5, 2) := by decide +kernel
theorem dX3_beyond_51 : decode cX3_beyond 51 = .ok (.iconst 1, 1) := by decide +kernel
theorem dX3_beyond_52 : decode cX3_beyond 52 = .ok (.isub, 1) := by decide +kernel
theorem dX3_beyond_53 : decode cX3_beyond 53 = .ok (.iconst 1, 1) := by decide +kernel
theorem dX3_beyond_54 : decode cX3_beyond 54 = .ok (.invokevirtual 64, 3) := by decide +kernel
theorem dX3_beyond_57 : decode cX3_beyond 57 = .ok (.ireturn, 1) := by decide +kernel
theorem dX3_beyond_58 : decode cX3_beyond 58 = .ok (.iload_n 3, 1) := by decide +kernel
theorem dX3_beyond_59 : decode cX3_beyond 59 = .ok (.iconst 1, 1) := by decide +kernel
theorem dX3_beyond_60 : decode cX3_beyond 60 = .ok (.if_icmp .ne 36, 3) := by decide +kernel
theorem dX3_beyond_63 : decode cX3_beyond 63 = .ok (.iload 6, 2) := by decide +kernel
theorem dX3_beyond_65 : decode cX3_beyond 65 = .ok (.ifCond .eq 18, 3) := by decide +kernel
theorem dX3_beyond_68 : decode cX3_beyond 68 = .ok (.aload_n 0, 1) := by decide +kernel
theorem dX3_beyond_69 : decode cX3_beyond 69 = .ok (.aload_n 1, 1) := by decide +kernel
theorem dX3_beyond_70 : decode cX3_beyond 70 = .ok (.iload 4, 2) := by decide +kernel
theorem dX3_beyond_72 : decode cX3_beyond 72 = .ok (.iload 5, 2) := by decide +kernel
theorem dX3_beyond_74 : decode cX3_beyond 74 = .ok (.iconst 1, 1) := by decide +kernel
theorem dX3_beyond_75 : decode cX3_beyond 75 = .ok (.iadd, 1) := by decide +kernel
theorem dX3_beyond_76 : decode cX3_beyond 76 = .ok (.iconst 0, 1) := by decide +kernel
theorem dX3_beyond_77 : decode cX3_beyond 77 = .ok (.invokevirtual 64, 3) := by decide +kernel
theorem dX3_beyond_80 : decode cX3_beyond 80 = .ok (.goto 15, 3) := by decide +kernel
theorem dX3_beyond_83 : decode cX3_beyond 83 = .ok (.aload_n 0, 1) := by decide +kernel
theorem dX3_beyond_84 : decode cX3_beyond 84 = .ok (.aload_n 1, 1) := by decide +kernel
theorem dX3_beyond_85 : decode cX3_beyond 85 = .ok (.iload 4, 2) := by decide +kernel
theorem dX3_beyond_87 : decode cX3_beyond 87 = .ok (.iconst 1, 1) := by decide +kernel
theorem dX3_beyond_88 : decode cX3_beyond 88 = .ok (.iadd, 1) := by decide +kernel
theorem dX3_beyond_89 : decode cX3_beyond 89 = .ok (.iload 5, 2) := by decide +kernel
theorem dX3_beyond_91 : decode cX3_beyond 91 = .ok (.iconst 1, 1) := by decide +kernel
theorem dX3_beyond_92 : decode cX3_beyond 92 = .ok (.invokevirtual 64, 3) := by decide +kernel
theorem dX3_beyond_95 : decode cX3_beyond 95 = .ok (.ireturn, 1) := by decide +kernel
theorem dX3_beyond_96 : decode cX3_beyond 96 = .ok (.aload_n 0, 1) := by decide +kernel
theorem dX3_beyond_97 : decode cX3_beyond 97 = .ok (.aload_n 1, 1) := by decide +kernel
theorem dX3_beyond_98 : decode cX3_beyond 98 = .ok (.iload 4, 2) := by decide +kernel
theorem dX3_beyond_100 : decode cX3_beyond 100 = .ok (.iload 5, 2) := by decide +kernel
theorem dX3_beyond_102 : decode cX3_beyond 102 = .ok (.iload 6, 2) := by decide +kernel
theorem dX3_beyond_104 : decode cX3_beyond 104 = .ok (.ifCond .eq 7, 3) := by decide +kernel
theorem dX3_beyond_107 : decode cX3_beyond 107 = .ok (.iconst 0, 1) := by decide +kernel
theorem dX3_beyond_108 : decode cX3_beyond 108 = .ok (.goto 4, 3) := by decide +kernel
theorem dX3_beyond_111 : decode cX3_beyond 111 = .ok (.iconst 1, 1) := by decide +kernel
theorem dX3_beyond_112 : decode cX3_beyond 112 = .ok (.invokevirtual 64, 3) := by decide +kernel
theorem dX3_beyond_115 : decode cX3_beyond 115 = .ok (.ireturn, 1) := by decide +kernel
theorem dX3_thirdAt_0 : decode cX3_thirdAt 0 = .ok (.aload_n 1, 1) := by decide +kernel
theorem dX3_thirdAt_1 : decode cX3_thirdAt 1 = .ok (.iload_n 2, 1) := by decide +kernel
theorem dX3_thirdAt_2 : decode cX3_thirdAt 2 = .ok (.iload_n 3, 1) := by decide +kernel
theorem dX3_thirdAt_3 : decode cX3_thirdAt 3 = .ok (.invokevirtual 49, 3) := by decide +kernel
theorem dX3_thirdAt_6 : decode cX3_thirdAt 6 = .ok (.ifCond .eq 17, 3) := by decide +kernel
theorem dX3_thirdAt_9 : decode cX3_thirdAt 9 = .ok (.iconst 2, 1) := by decide +kernel
theorem dX3_thirdAt_10 : decode cX3_thirdAt 10 = .ok (.iload_n 2, 1) := by decide +kernel
theorem dX3_thirdAt_11 : decode cX3_thirdAt 11 = .ok (.bipush 15, 2) := by decide +kernel
theorem dX3_thirdAt_13 : decode cX3_thirdAt 13 = .ok (.iload_n 3, 1) := by decide +kernel
theorem dX3_thirdAt_14 : decode cX3_thirdAt 14 = .ok (.imul, 1) := by decide +kernel
theorem dX3_thirdAt_15 : decode cX3_thirdAt 15 = .ok (.iadd, 1) := by decide +kernel
theorem dX3_thirdAt_16 : decode cX3_thirdAt 16 = .ok (.imul, 1) := by decide +kernel
theorem dX3_thirdAt_17 : decode cX3_thirdAt 17 = .ok (.iload 4, 2) := by decide +kernel
theorem dX3_thirdAt_19 : decode cX3_thirdAt 19 = .ok (.iadd, 1) := by decide +kernel
theorem dX3_thirdAt_20 : decode cX3_thirdAt 20 = .ok (.goto 4, 3) := by decide +kernel
theorem dX3_thirdAt_23 : decode cX3_thirdAt 23 = .ok (.iconst (-1), 1) := by decide +kernel
theorem dX3_thirdAt_24 : decode cX3_thirdAt 24 = .ok (.ireturn, 1) := by decide +kernel
theorem dX3_column_0 : decode cX3_column 0 = .ok (.iload_n 1, 1) := by decide +kernel
theorem dX3_column_1 : decode cX3_column 1 = .ok (.iconst 2, 1) := by decide +kernel
theorem dX3_column_2 : decode cX3_column 2 = .ok (.idiv, 1) := by decide +kernel
theorem dX3_column_3 : decode cX3_column 3 = .ok (.bipush 15, 2) := by decide +kernel
theorem dX3_column_5 : decode cX3_column 5 = .ok (.irem, 1) := by decide +kernel
theorem dX3_column_6 : decode cX3_column 6 = .ok (.ireturn, 1) := by decide +kernel
theorem dX3_row_0 : decode cX3_row 0 = .ok (.iload_n 1, 1) := by decide +kernel
theorem dX3_row_1 : decode cX3_row 1 = .ok (.iconst 2, 1) := by decide +kernel
theorem dX3_row_2 : decode cX3_row 2 = .ok (.idiv, 1) := by decide +kernel
theorem dX3_row_3 : decode cX3_row 3 = .ok (.bipush 15, 2) := by decide +kernel
theorem dX3_row_5 : decode cX3_row 5 = .ok (.idiv, 1) := by decide +kernel
theorem dX3_row_6 : decode cX3_row 6 = .ok (.ireturn, 1) := by decide +kernel
theorem dX3_isUpper_0 : decode cX3_isUpper 0 = .ok (.iload_n 1, 1) := by decide +kernel
theorem dX3_isUpper_1 : decode cX3_isUpper 1 = .ok (.iconst 2, 1) := by decide +kernel
theorem dX3_isUpper_2 : decode cX3_isUpper 2 = .ok (.irem, 1) := by decide +kernel
theorem dX3_isUpper_3 : decode cX3_isUpper 3 = .ok (.iconst 1, 1) := by decide +kernel
theorem dX3_isUpper_4 : decode cX3_isUpper 4 = .ok (.if_icmp .ne 7, 3) := by decide +kernel
theorem dX3_isUpper_7 : decode cX3_isUpper 7 = .ok (.iconst 1, 1) := by decide +kernel
theorem dX3_isUpper_8 : decode cX3_isUpper 8 = .ok (.goto 4, 3) := by decide +kernel
theorem dX3_isUpper_11 : decode cX3_isUpper 11 = .ok (.iconst 0, 1) := by decide +kernel
theorem dX3_isUpper_12 : decode cX3_isUpper 12 = .ok (.ireturn, 1) := by decide +kernel
theorem dX4_init_0 : decode cX4_init 0 = .ok (.aload_n 0, 1) := by decide +kernel
theorem dX4_init_1 : decode cX4_init 1 = .ok (.invokespecial 3, 3) := by decide +kernel
theorem dX4_init_4 : decode cX4_init 4 = .ok (.aload_n 0, 1) := by decide +kernel
theorem dX4_init_5 : decode cX4_init 5 = .ok (.bipush 40, 2) := by decide +kernel
theorem dX4_init_7 : decode cX4_init 7 = .ok (.newarray .int, 2) := by decide +kernel
theorem dX4_init_9 : decode cX4_init 9 = .ok (.putfield 11, 3) := by decide +kernel
theorem dX4_init_12 : decode cX4_init 12 = .ok (.aload_n 0, 1) := by decide +kernel
theorem dX4_init_13 : decode cX4_init 13 = .ok (.bipush 40, 2) := by decide +kernel
theorem dX4_init_15 : decode cX4_init 15 = .ok (.newarray .int, 2) := by decide +kernel
theorem dX4_init_17 : decode cX4_init 17 = .ok (.putfield 15, 3) := by decide +kernel
theorem dX4_init_20 : decode cX4_init 20 = .ok (.aload_n 0, 1) := by decide +kernel
theorem dX4_init_21 : decode cX4_init 21 = .ok (.bipush 40, 2) := by decide +kernel
theorem dX4_init_23 : decode cX4_init 23 = .ok (.newarray .int, 2) := by decide +kernel
theorem dX4_init_25 : decode cX4_init 25 = .ok (.putfield 18, 3) := by decide +kernel
theorem dX4_init_28 : decode cX4_init 28 = .ok (.aload_n 0, 1) := by decide +kernel
theorem dX4_init_29 : decode cX4_init 29 = .ok (.bipush 40, 2) := by decide +kernel
theorem dX4_init_31 : decode cX4_init 31 = .ok (.newarray .int, 2) := by decide +kernel
theorem dX4_init_33 : decode cX4_init 33 = .ok (.putfield 21, 3) := by decide +kernel
theorem dX4_init_36 : decode cX4_init 36 = .ok (.aload_n 0, 1) := by decide +kernel
theorem dX4_init_37 : decode cX4_init 37 = .ok (.iconst 0, 1) := by decide +kernel
theorem dX4_init_38 : decode cX4_init 38 = .ok (.putfield 24, 3) := by decide +kernel
theorem dX4_init_41 : decode cX4_init 41 = .ok (.aload_n 0, 1) := by decide +kernel
theorem dX4_init_42 : decode cX4_init 42 = .ok (.iconst 0, 1) := by decide +kernel
theorem dX4_init_43 : decode cX4_init 43 = .ok (.putfield 28, 3) := by decide +kernel
theorem dX4_init_46 : decode cX4_init 46 = .ok (.aload_n 0, 1) := by decide +kernel
theorem dX4_init_47 : decode cX4_init 47 = .ok (.lconst 0, 1) := by decide +kernel
theorem dX4_init_48 : decode cX4_init 48 = .ok (.putfield 31, 3) := by decide +kernel
theorem dX4_init_51 : decode cX4_init 51 = .ok (.aload_n 0, 1) := by decide +kernel
theorem dX4_init_52 : decode cX4_init 52 = .ok (.lconst 0, 1) := by decide +kernel
theorem dX4_init_53 : decode cX4_init 53 = .ok (.putfield 35, 3) := by decide +kernel
theorem dX4_init_56 : decode cX4_init 56 = .ok (.aload_n 0, 1) := by decide +kernel
theorem dX4_init_57 : decode cX4_init 57 = .ok (.lconst 0, 1) := by decide +kernel
theorem dX4_init_58 : decode cX4_init 58 = .ok (.putfield 38, 3) := by decide +kernel
theorem dX4_init_61 : decode cX4_init 61 = .ok (.aload_n 0, 1) := by decide +kernel
theorem dX4_init_62 : decode cX4_init 62 = .ok (.iconst 0, 1) := by decide +kernel
theorem dX4_init_63 : decode cX4_init 63 = .ok (.putfield 41, 3) := by decide +kernel
theorem dX4_init_66 : decode cX4_init 66 = .ok (.aload_n 0, 1) := by decide +kernel
theorem dX4_init_67 : decode cX4_init 67 = .ok (.iconst 0, 1) := by decide +kernel
theorem dX4_init_68 : decode cX4_init 68 = .ok (.putfield 44, 3) := by decide +kernel
theorem dX4_init_71 : decode cX4_init 71 = .ok (.aload_n 0, 1) := by decide +kernel
theorem dX4_init_72 : decode cX4_init 72 = .ok (.iconst 0, 1) := by decide +kernel
theorem dX4_init_73 : decode cX4_init 73 = .ok (.putfield 47, 3) := by decide +kernel
theorem dX4_init_76 : decode cX4_init 76 = .ok (.aload_n 0, 1) := by decide +kernel
theorem dX4_init_77 : decode cX4_init 77 = .ok (.iconst 0, 1) := by decide +kernel
theorem dX4_init_78 : decode cX4_init 78 = .ok (.putfield 50, 3) := by decide +kernel
theorem dX4_init_81 : decode cX4_init 81 = .ok (.return_, 1) := by decide +kernel
theorem dX4_findAll_0 : decode cX4_findAll 0 = .ok (.aload_n 0, 1) := by decide +kernel
theorem dX4_findAll_1 : decode cX4_findAll 1 = .ok (.aload_n 1, 1) := by decide +kernel
theorem dX4_findAll_2 : decode cX4_findAll 2 = .ok (.invokevirtual 53, 3) := by decide +kernel
theorem dX4_findAll_5 : decode cX4_findAll 5 = .ok (.bipush 40, 2) := by decide +kernel
theorem dX4_findAll_7 : decode cX4_findAll 7 = .ok (.if_icmp .le 6, 3) := by decide +kernel
theorem dX4_findAll_10 : decode cX4_findAll 10 = .ok (.bipush (-3), 2) := by decide +kernel
theorem dX4_findAll_12 : decode cX4_findAll 12 = .ok (.ireturn, 1) := by decide +kernel
theorem dX4_findAll_13 : decode cX4_findAll 13 = .ok (.aload_n 0, 1) := by decide +kernel
theorem dX4_findAll_14 : decode cX4_findAll 14 = .ok (.aload_n 1, 1) := by decide +kernel
theorem dX4_findAll_15 : decode cX4_findAll 15 = .ok (.invokevirtual 57, 3) := by decide +kernel
theorem dX4_findAll_18 : decode cX4_findAll 18 = .ok (.iconst 0, 1) := by decide +kernel
theorem dX4_findAll_19 : decode cX4_findAll 19 = .ok (.istore 4, 2) := by decide +kernel
theorem dX4_findAll_21 : decode cX4_findAll 21 = .ok (.iconst 0, 1) := by decide +kernel
theorem dX4_findAll_22 : decode cX4_findAll 22 = .ok (.istore 5, 2) := by decide +kernel
theorem dX4_findAll_24 : decode cX4_findAll 24 = .ok (.iload 5, 2) := by decide +kernel
theorem dX4_findAll_26 : decode cX4_findAll 26 = .ok (.bipush 8, 2) := by decide +kernel
theorem dX4_findAll_28 : decode cX4_findAll 28 = .ok (.if_icmp .ge 38, 3) := by decide +kernel
theorem dX4_findAll_31 : decode cX4_findAll 31 = .ok (.aload_n 0, 1) := by decide +kernel
theorem dX4_findAll_32 : decode cX4_findAll 32 = .ok (.iload_n 2, 1) := by decide +kernel
theorem dX4_findAll_33 : decode cX4_findAll 33 = .ok (.invokevirtual 61, 3) := by decide +kernel
theorem dX4_findAll_36 : decode cX4_findAll 36 = .ok (.aload_n 0, 1) := by decide +kernel
theorem dX4_findAll_37 : decode cX4_findAll 37 = .ok (.getfield 41, 3) := by decide +kernel
theorem dX4_findAll_40 : decode cX4_findAll 40 = .ok (.iload_n 3, 1) := by decide +kernel
theorem dX4_findAll_41 : decode cX4_findAll 41 = .ok (.if_icmp .ge 6, 3) := by decide +kernel
theorem dX4_findAll_44 : decode cX4_findAll 44 = .ok (.goto 22, 3) := by decide +kernel
theorem dX4_findAll_47 : decode cX4_findAll 47 = .ok (.aload_n 0, 1) := by decide +kernel
theorem dX4_findAll_48 : decode cX4_findAll 48 = .ok (.aload_n 1, 1) := by decide +kernel
theorem dX4_findAll_49 : decode cX4_findAll 49 = .ok (.iconst 3, 1) := by decide +kernel
theorem dX4_findAll_50 : decode cX4_findAll 50 = .ok (.iload 5, 2) := by decide +kernel
theorem dX4_findAll_52 : decode cX4_findAll 52 = .ok (.iadd, 1) := by decide +kernel
theorem dX4_findAll_53 : decode cX4_findAll 53 = .ok (.iload_n 2, 1) := by decide +kernel
theorem dX4_findAll_54 : decode cX4_findAll 54 = .ok (.invokevirtual 65, 3) := by decide +kernel
theorem dX4_findAll_57 : decode cX4_findAll 57 = .ok (.iinc 4 1, 3) := by decide +kernel
theorem dX4_findAll_60 : decode cX4_findAll 60 = .ok (.iinc 5 1, 3) := by decide +kernel
theorem dX4_findAll_63 : decode cX4_findAll 63 = .ok (.goto (-39), 3) := by decide +kernel
theorem dX4_findAll_66 : decode cX4_findAll 66 = .ok (.iload 4, 2) := by decide +kernel
theorem dX4_findAll_68 : decode cX4_findAll 68 = .ok (.ireturn, 1) := by decide +kernel
theorem dX4_isFree_0 : decode cX4_isFree 0 = .ok (.aload_n 1, 1) := by decide +kernel
theorem dX4_isFree_1 : decode cX4_isFree 1 = .ok (.getfield 69, 3) := by decide +kernel
theorem dX4_isFree_4 : decode cX4_isFree 4 = .ok (.iload_n 2, 1) := by decide +kernel
theorem dX4_isFree_5 : decode cX4_isFree 5 = .ok (.iaload, 1) := by decide +kernel
theorem dX4_isFree_6 : decode cX4_isFree 6 = .ok (.iconst 2, 1) := by decide +kernel
theorem dX4_isFree_7 : decode cX4_isFree 7 = .ok (.if_icmp .lt 16, 3) := by decide +kernel
theorem dX4_isFree_10 : decode cX4_isFree 10 = .ok (.aload_n 1, 1) := by decide +kernel
theorem dX4_isFree_11 : decode cX4_isFree 11 = .ok (.getfield 74, 3) := by decide +kernel
theorem dX4_isFree_14 : decode cX4_isFree 14 = .ok (.iload_n 2, 1) := by decide +kernel
theorem dX4_isFree_15 : decode cX4_isFree 15 = .ok (.iaload, 1) := by decide +kernel
theorem dX4_isFree_16 : decode cX4_isFree 16 = .ok (.ifCond .ne 7, 3) := by decide +kernel
theorem dX4_isFree_19 : decode cX4_isFree 19 = .ok (.iconst 1, 1) := by decide +kernel
theorem dX4_isFree_20 : decode cX4_isFree 20 = .ok (.goto 4, 3) := by decide +kernel
theorem dX4_isFree_23 : decode cX4_isFree 23 = .ok (.iconst 0, 1) := by decide +kernel
theorem dX4_isFree_24 : decode cX4_isFree 24 = .ok (.ireturn, 1) := by decide +kernel
theorem dX4_countFree_0 : decode cX4_countFree 0 = .ok (.iconst 0, 1) := by decide +kernel
theorem dX4_countFree_1 : decode cX4_countFree 1 = .ok (.istore_n 2, 1) := by decide +kernel
theorem dX4_countFree_2 : decode cX4_countFree 2 = .ok (.iconst 0, 1) := by decide +kernel
theorem dX4_countFree_3 : decode cX4_countFree 3 = .ok (.istore_n 3, 1) := by decide +kernel
theorem dX4_countFree_4 : decode cX4_countFree 4 = .ok (.iload_n 3, 1) := by decide +kernel
theorem dX4_countFree_5 : decode cX4_countFree 5 = .ok (.aload_n 1, 1) := by decide +kernel
theorem dX4_countFree_6 : decode cX4_countFree 6 = .ok (.getfield 77, 3) := by decide +kernel
theorem dX4_countFree_9 : decode cX4_countFree 9 = .ok (.if_icmp .ge 21, 3) := by decide +kernel
theorem dX4_countFree_12 : decode cX4_countFree 12 = .ok (.aload_n 0, 1) := by decide +kernel
theorem dX4_countFree_13 : decode cX4_countFree 13 = .ok (.aload_n 1, 1) := by decide +kernel
theorem dX4_countFree_14 : decode cX4_countFree 14 = .ok (.iload_n 3, 1) := by decide +kernel
theorem dX4_countFree_15 : decode cX4_countFree 15 = .ok (.invokevirtual 78, 3) := by decide +kernel
theorem dX4_countFree_18 : decode cX4_countFree 18 = .ok (.ifCond .eq 6, 3) := by decide +kernel
theorem dX4_countFree_21 : decode cX4_countFree 21 = .ok (.iinc 2 1, 3) := by decide +kernel
theorem dX4_countFree_24 : decode cX4_countFree 24 = .ok (.iinc 3 1, 3) := by decide +kernel
theorem dX4_countFree_27 : decode cX4_countFree 27 = .ok (.goto (-23), 3) := by decide +kernel
theorem dX4_countFree_30 : decode cX4_countFree 30 = .ok (.iload_n 2, 1) := by decide +kernel
theorem dX4_countFree_31 : decode cX4_countFree 31 = .ok (.ireturn, 1) := by decide +kernel
theorem dX4_gather_0 : decode cX4_gather 0 = .ok (.aload_n 0, 1) := by decide +kernel
theorem dX4_gather_1 : decode cX4_gather 1 = .ok (.iconst 0, 1) := by decide +kernel
theorem dX4_gather_2 : decode cX4_gather 2 = .ok (.putfield 24, 3) := by decide +kernel
theorem dX4_gather_5 : decode cX4_gather 5 = .ok (.iconst 0, 1) := by decide +kernel
theorem dX4_gather_6 : decode cX4_gather 6 = .ok (.istore_n 2, 1) := by decide +kernel
theorem dX4_gather_7 : decode cX4_gather 7 = .ok (.iload_n 2, 1) := by decide +kernel
theorem dX4_gather_8 : decode cX4_gather 8 = .ok (.aload_n 1, 1) := by decide +kernel
theorem dX4_gather_9 : decode cX4_gather 9 = .ok (.getfield 77, 3) := by decide +kernel
theorem dX4_gather_12 : decode cX4_gather 12 = .ok (.if_icmp .ge 98, 3) := by decide +kernel
theorem dX4_gather_15 : decode cX4_gather 15 = .ok (.aload_n 0, 1) := by decide +kernel
theorem dX4_gather_16 : decode cX4_gather 16 = .ok (.aload_n 1, 1) := by decide +kernel
theorem dX4_gather_17 : decode cX4_gather 17 = .ok (.iload_n 2, 1) := by decide +kernel
theorem dX4_gather_18 : decode cX4_gather 18 = .ok (.invokevirtual 78, 3) := by decide +kernel
theorem dX4_gather_21 : decode cX4_gather 21 = .ok (.ifCond .eq 83, 3) := by decide +kernel
theorem dX4_gather_24 : decode cX4_gather 24 = .ok (.aload_n 0, 1) := by decide +kernel
theorem dX4_gather_25 : decode cX4_gather 25 = .ok (.getfield 24, 3) := by decide +kernel
theorem dX4_gather_28 : decode cX4_gather 28 = .ok (.bipush 40, 2) := by decide +kernel
theorem dX4_gather_30 : decode cX4_gather 30 = .ok (.if_icmp .ge 74, 3) := by decide +kernel
theorem dX4_gather_33 : decode cX4_gather 33 = .ok (.aload_n 1, 1) := by decide +kernel
theorem dX4_gather_34 : decode cX4_gather 34 = .ok (.getfield 69, 3) := by decide +kernel
theorem dX4_gather_37 : decode cX4_gather 37 = .ok (.iload_n 2, 1) := by decide +kernel
theorem dX4_gather_38 : decode cX4_gather 38 = .ok (.iconst 2, 1) := by decide +kernel
theorem dX4_gather_39 : decode cX4_gather 39 = .ok (.iastore, 1) := by decide +kernel
theorem dX4_gather_40 : decode cX4_gather 40 = .ok (.aload_n 0, 1) := by decide +kernel
theorem dX4_gather_41 : decode cX4_gather 41 = .ok (.getfield 11, 3) := by decide +kernel
theorem dX4_gather_44 : decode cX4_gather 44 = .ok (.aload_n 0, 1) := by decide +kernel
theorem dX4_gather_45 : decode cX4_gather 45 = .ok (.getfield 24, 3) := by decide +kernel
theorem dX4_gather_48 : decode cX4_gather 48 = .ok (.iload_n 2, 1) := by decide +kernel
theorem dX4_gather_49 : decode cX4_gather 49 = .ok (.iastore, 1) := by decide +kernel
theorem dX4_gather_50 : decode cX4_gather 50 = .ok (.aload_n 0, 1) := by decide +kernel
theorem dX4_gather_51 : decode cX4_gather 51 = .ok (.getfield 15, 3) := by decide +kernel
theorem dX4_gather_54 : decode cX4_gather 54 = .ok (.aload_n 0, 1) := by decide +kernel
theorem dX4_gather_55 : decode cX4_gather 55 = .ok (.getfield 24, 3) := by decide +kernel
theorem dX4_gather_58 : decode cX4_gather 58 = .ok (.aload_n 1, 1) := by decide +kernel
theorem dX4_gather_59 : decode cX4_gather 59 = .ok (.getfield 82, 3) := by decide +kernel
theorem dX4_gather_62 : decode cX4_gather 62 = .ok (.iload_n 2, 1) := by decide +kernel
theorem dX4_gather_63 : decode cX4_gather 63 = .ok (.iaload, 1) := by decide +kernel
theorem dX4_gather_64 : decode cX4_gather 64 = .ok (.iastore, 1) := by decide +kernel
theorem dX4_gather_65 : decode cX4_gather 65 = .ok (.aload_n 0, 1) := by decide +kernel
theorem dX4_gather_66 : decode cX4_gather 66 = .ok (.getfield 18, 3) := by decide +kernel
theorem dX4_gather_69 : decode cX4_gather 69 = .ok (.aload_n 0, 1) := by decide +kernel
theorem dX4_gather_70 : decode cX4_gather 70 = .ok (.getfield 24, 3) := by decide +kernel
theorem dX4_gather_73 : decode cX4_gather 73 = .ok (.aload_n 1, 1) := by decide +kernel
theorem dX4_gather_74 : decode cX4_gather 74 = .ok (.getfield 83, 3) := by decide +kernel
theorem dX4_gather_77 : decode cX4_gather 77 = .ok (.iload_n 2, 1) := by decide +kernel
theorem dX4_gather_78 : decode cX4_gather 78 = .ok (.iaload, 1) := by decide +kernel
theorem dX4_gather_79 : decode cX4_gather 79 = .ok (.iastore, 1) := by decide +kernel
theorem dX4_gather_80 : decode cX4_gather 80 = .ok (.aload_n 0, 1) := by decide +kernel
theorem dX4_gather_81 : decode cX4_gather 81 = .ok (.getfield 21, 3) := by decide +kernel
theorem dX4_gather_84 : decode cX4_gather 84 = .ok (.aload_n 0, 1) := by decide +kernel
theorem dX4_gather_85 : decode cX4_gather 85 = .ok (.getfield 24, 3) := by decide +kernel
theorem dX4_gather_88 : decode cX4_gather 88 = .ok (.aload_n 1, 1) := by decide +kernel
theorem dX4_gather_89 : decode cX4_gather 89 = .ok (.iload_n 2, 1) := by decide +kernel
theorem dX4_gather_90 : decode cX4_gather 90 = .ok (.invokevirtual 84, 3) := by decide +kernel
theorem dX4_gather_93 : decode cX4_gather 93 = .ok (.iastore, 1) := by decide +kernel
theorem dX4_gather_94 : decode cX4_gather 94 = .ok (.aload_n 0, 1) := by decide +kernel
theorem dX4_gather_95 : decode cX4_gather 95 = .ok (.dup, 1) := by decide +kernel
theorem dX4_gather_96 : decode cX4_gather 96 = .ok (.getfield 24, 3) := by decide +kernel
theorem dX4_gather_99 : decode cX4_gather 99 = .ok (.iconst 1, 1) := by decide +kernel
theorem dX4_gather_100 : decode cX4_gather 100 = .ok (.iadd, 1) := by decide +kernel
theorem dX4_gather_101 : decode cX4_gather 101 = .ok (.putfield 24, 3) := by decide +kernel
theorem dX4_gather_104 : decode cX4_gather 104 = .ok (.iinc 2 1, 3) := by decide +kernel
theorem dX4_gather_107 : decode cX4_gather 107 = .ok (.goto (-100), 3) := by decide +kernel
theorem dX4_gather_110 : decode cX4_gather 110 = .ok (.return_, 1) := by decide +kernel
theorem dX4_findBest_0 : decode cX4_findBest 0 = .ok (.aload_n 0, 1) := by decide +kernel
theorem dX4_findBest_1 : decode cX4_findBest 1 = .ok (.iconst 0, 1) := by decide +kernel
theorem dX4_findBest_2 : decode cX4_findBest 2 = .ok (.putfield 41, 3) := by decide +kernel
theorem dX4_findBest_5 : decode cX4_findBest 5 = .ok (.iconst 0, 1) := by decide +kernel
theorem dX4_findBest_6 : decode cX4_findBest 6 = .ok (.istore_n 2, 1) := by decide +kernel
theorem dX4_findBest_7 : decode cX4_findBest 7 = .ok (.iload_n 2, 1) := by decide +kernel
theorem dX4_findBest_8 : decode cX4_findBest 8 = .ok (.aload_n 0, 1) := by decide +kernel
theorem dX4_findBest_9 : decode cX4_findBest 9 = .ok (.getfield 24, 3) := by decide +kernel
theorem dX4_findBest_12 : decode cX4_findBest 12 = .ok (.if_icmp .ge 71, 3) := by decide +kernel
theorem dX4_findBest_15 : decode cX4_findBest 15 = .ok (.iload_n 2, 1) := by decide +kernel
theorem dX4_findBest_16 : decode cX4_findBest 16 = .ok (.iconst 1, 1) := by decide +kernel
theorem dX4_findBest_17 : decode cX4_findBest 17 = .ok (.iadd, 1) := by decide +kernel
theorem dX4_findBest_18 : decode cX4_findBest 18 = .ok (.istore_n 3, 1) := by decide +kernel
theorem dX4_findBest_19 : decode cX4_findBest 19 = .ok (.iload_n 3, 1) := by decide +kernel
theorem dX4_findBest_20 : decode cX4_findBest 20 = .ok (.aload_n 0, 1) := by decide +kernel
theorem dX4_findBest_21 : decode cX4_findBest 21 = .ok (.getfield 24, 3) := by decide +kernel
theorem dX4_findBest_24 : decode cX4_findBest 24 = .ok (.if_icmp .ge 53, 3) := by decide +kernel
theorem dX4_findBest_27 : decode cX4_findBest 27 = .ok (.iload_n 3, 1) := by decide +kernel
theorem dX4_findBest_28 : decode cX4_findBest 28 = .ok (.iconst 1, 1) := by decide +kernel
theorem dX4_findBest_29 : decode cX4_findBest 29 = .ok (.iadd, 1) := by decide +kernel
theorem dX4_findBest_30 : decode cX4_findBest 30 = .ok (.istore 4, 2) := by decide +kernel
theorem dX4_findBest_32 : decode cX4_findBest 32 = .ok (.iload 4, 2) := by decide +kernel
theorem dX4_findBest_34 : decode cX4_findBest 34 = .ok (.aload_n 0, 1) := by decide +kernel
theorem dX4_findBest_35 : decode cX4_findBest 35 = .ok (.getfield 24, 3) := by decide +kernel
theorem dX4_findBest_38 : decode cX4_findBest 38 = .ok (.if_icmp .ge 33, 3) := by decide +kernel
theorem dX4_findBest_41 : decode cX4_findBest 41 = .ok (.aload_n 0, 1) := by decide +kernel
theorem dX4_findBest_42 : decode cX4_findBest 42 = .ok (.iload_n 2, 1) := by decide +kernel
theorem dX4_findBest_43 : decode cX4_findBest 43 = .ok (.iload_n 3, 1) := by decide +kernel
theorem dX4_findBest_44 : decode cX4_findBest 44 = .ok (.iload 4, 2) := by decide +kernel
theorem dX4_findBest_46 : decode cX4_findBest 46 = .ok (.invokevirtual 87, 3) := by decide +kernel
theorem dX4_findBest_49 : decode cX4_findBest 49 = .ok (.ifCond .eq 16, 3) := by decide +kernel
theorem dX4_findBest_52 : decode cX4_findBest 52 = .ok (.aload_n 0, 1) := by decide +kernel
theorem dX4_findBest_53 : decode cX4_findBest 53 = .ok (.iload_n 2, 1) := by decide +kernel
theorem dX4_findBest_54 : decode cX4_findBest 54 = .ok (.iload_n 3, 1) := by decide +kernel
theorem dX4_findBest_55 : decode cX4_findBest 55 = .ok (.iload 4, 2) := by decide +kernel
theorem dX4_findBest_57 : decode cX4_findBest 57 = .ok (.aload_n 0, 1) := by decide +kernel
theorem dX4_findBest_58 : decode cX4_findBest 58 = .ok (.iload_n 1, 1) := by decide +kernel
theorem dX4_findBest_59 : decode cX4_findBest 59 = .ok (.invokevirtual 91, 3) := by decide +kernel
theorem dX4_findBest_62 : decode cX4_findBest 62 = .ok (.invokevirtual 94, 3) := by decide +kernel
theorem dX4_findBest_65 : decode cX4_findBest 65 = .ok (.iinc 4 1, 3) := by decide +kernel
theorem dX4_findBest_68 : decode cX4_findBest 68 = .ok (.goto (-36), 3) := by decide +kernel
theorem dX4_findBest_71 : decode cX4_findBest 71 = .ok (.iinc 3 1, 3) := by decide +kernel
theorem dX4_findBest_74 : decode cX4_findBest 74 = .ok (.goto (-55), 3) := by decide +kernel
theorem dX4_findBest_77 : decode cX4_findBest 77 = .ok (.iinc 2 1, 3) := by decide +kernel
theorem dX4_findBest_80 : decode cX4_findBest 80 = .ok (.goto (-73), 3) := by decide +kernel
theorem dX4_findBest_83 : decode cX4_findBest 83 = .ok (.return_, 1) := by decide +kernel
theorem dX4_offer_0 : decode cX4_offer 0 = .ok (.iload 4, 2) := by decide +kernel
theorem dX4_offer_2 : decode cX4_offer 2 = .ok (.aload_n 0, 1) := by decide +kernel
theorem dX4_offer_3 : decode cX4_offer 3 = .ok (.getfield 41, 3) := by decide +kernel
theorem dX4_offer_6 : decode cX4_offer 6 = .ok (.if_icmp .le 24, 3) := by decide +kernel
theorem dX4_offer_9 : decode cX4_offer 9 = .ok (.aload_n 0, 1) := by decide +kernel
theorem dX4_offer_10 : decode cX4_offer 10 = .ok (.iload 4, 2) := by decide +kernel
theorem dX4_offer_12 : decode cX4_offer 12 = .ok (.putfield 41, 3) := by decide +kernel
theorem dX4_offer_15 : decode cX4_offer 15 = .ok (.aload_n 0, 1) := by decide +kernel
theorem dX4_offer_16 : decode cX4_offer 16 = .ok (.iload_n 1, 1) := by decide +kernel
theorem dX4_offer_17 : decode cX4_offer 17 = .ok (.putfield 44, 3) := by decide +kernel
theorem dX4_offer_20 : decode cX4_offer 20 = .ok (.aload_n 0, 1) := by decide +kernel
theorem dX4_offer_21 : decode cX4_offer 21 = .ok (.iload_n 2, 1) := by decide +kernel
theorem dX4_offer_22 : decode cX4_offer 22 = .ok (.putfield 47, 3) := by decide +kernel
theorem dX4_offer_25 : decode cX4_offer 25 = .ok (.aload_n 0, 1) := by decide +kernel
theorem dX4_offer_26 : decode cX4_offer 26 = .ok (.iload_n 3, 1) := by decide +kernel
theorem dX4_offer_27 : decode cX4_offer 27 = .ok (.putfield 50, 3) := by decide +kernel
theorem dX4_offer_30 : decode cX4_offer 30 = .ok (.return_, 1) := by decide +kernel
theorem dX4_lay_0 : decode cX4_lay 0 = .ok (.aload_n 0, 1) := by decide +kernel
theorem dX4_lay_1 : decode cX4_lay 1 = .ok (.getfield 15, 3) := by decide +kernel
theorem dX4_lay_4 : decode cX4_lay 4 = .ok (.iload_n 2, 1) := by decide +kernel
theorem dX4_lay_5 : decode cX4_lay 5 = .ok (.iaload, 1) := by decide +kernel
theorem dX4_lay_6 : decode cX4_lay 6 = .ok (.aload_n 0, 1) := by decide +kernel
theorem dX4_lay_7 : decode cX4_lay 7 = .ok (.getfield 15, 3) := by decide +kernel
theorem dX4_lay_10 : decode cX4_lay 10 = .ok (.iload_n 1, 1) := by decide +kernel
theorem dX4_lay_11 : decode cX4_lay 11 = .ok (.iaload, 1) := by decide +kernel
theorem dX4_lay_12 : decode cX4_lay 12 = .ok (.isub, 1) := by decide +kernel
theorem dX4_lay_13 : decode cX4_lay 13 = .ok (.i2l, 1) := by decide +kernel
theorem dX4_lay_14 : decode cX4_lay 14 = .ok (.lstore 4, 2) := by decide +kernel
theorem dX4_lay_16 : decode cX4_lay 16 = .ok (.aload_n 0, 1) := by decide +kernel
theorem dX4_lay_17 : decode cX4_lay 17 = .ok (.getfield 18, 3) := by decide +kernel
theorem dX4_lay_20 : decode cX4_lay 20 = .ok (.iload_n 2, 1) := by decide +kernel
theorem dX4_lay_21 : decode cX4_lay 21 = .ok (.iaload, 1) := by decide +kernel
theorem dX4_lay_22 : decode cX4_lay 22 = .ok (.aload_n 0, 1) := by decide +kernel
theorem dX4_lay_23 : decode cX4_lay 23 = .ok (.getfield 18, 3) := by decide +kernel
theorem dX4_lay_26 : decode cX4_lay 26 = .ok (.iload_n 1, 1) := by decide +kernel
theorem dX4_lay_27 : decode cX4_lay 27 = .ok (.iaload, 1) := by decide +kernel
theorem dX4_lay_28 : decode cX4_lay 28 = .ok (.isub, 1) := by decide +kernel
theorem dX4_lay_29 : decode cX4_lay 29 = .ok (.i2l, 1) := by decide +kernel
theorem dX4_lay_30 : decode cX4_lay 30 = .ok (.lstore 6, 2) := by decide +kernel
theorem dX4_lay_32 : decode cX4_lay 32 = .ok (.aload_n 0, 1) := by decide +kernel
theorem dX4_lay_33 : decode cX4_lay 33 = .ok (.getfield 21, 3) := by decide +kernel
theorem dX4_lay_36 : decode cX4_lay 36 = .ok (.iload_n 2, 1) := by decide +kernel
theorem dX4_lay_37 : decode cX4_lay 37 = .ok (.iaload, 1) := by decide +kernel
theorem dX4_lay_38 : decode cX4_lay 38 = .ok (.aload_n 0, 1) := by decide +kernel
theorem dX4_lay_39 : decode cX4_lay 39 = .ok (.getfield 21, 3) := by decide +kernel
theorem dX4_lay_42 : decode cX4_lay 42 = .ok (.iload_n 1, 1) := by decide +kernel
theorem dX4_lay_43 : decode cX4_lay 43 = .ok (.iaload, 1) := by decide +kernel
theorem dX4_lay_44 : decode cX4_lay 44 = .ok (.isub, 1) := by decide +kernel
theorem dX4_lay_45 : decode cX4_lay 45 = .ok (.i2l, 1) := by decide +kernel
theorem dX4_lay_46 : decode cX4_lay 46 = .ok (.lstore 8, 2) := by decide +kernel
theorem dX4_lay_48 : decode cX4_lay 48 = .ok (.aload_n 0, 1) := by decide +kernel
theorem dX4_lay_49 : decode cX4_lay 49 = .ok (.getfield 15, 3) := by decide +kernel
theorem dX4_lay_52 : decode cX4_lay 52 = .ok (.iload_n 3, 1) := by decide +kernel
theorem dX4_lay_53 : decode cX4_lay 53 = .ok (.iaload, 1) := by decide +kernel
theorem dX4_lay_54 : decode cX4_lay 54 = .ok (.aload_n 0, 1) := by decide +kernel
theorem dX4_lay_55 : decode cX4_lay 55 = .ok (.getfield 15, 3) := by decide +kernel
theorem dX4_lay_58 : decode cX4_lay 58 = .ok (.iload_n 1, 1) := by decide +kernel
theorem dX4_lay_59 : decode cX4_lay 59 = .ok (.iaload, 1) := by decide +kernel
theorem dX4_lay_60 : decode cX4_lay 60 = .ok (.isub, 1) := by decide +kernel
theorem dX4_lay_61 : decode cX4_lay 61 = .ok (.i2l, 1) := by decide +kernel
theorem dX4_lay_62 : decode cX4_lay 62 = .ok (.lstore 10, 2) := by decide +kernel
theorem dX4_lay_64 : decode cX4_lay 64 = .ok (.aload_n 0, 1) := by decide +kernel
theorem dX4_lay_65 : decode cX4_lay 65 = .ok (.getfield 18, 3) := by decide +kernel
theorem dX4_lay_68 : decode cX4_lay 68 = .ok (.iload_n 3, 1) := by decide +kernel
theorem dX4_lay_69 : decode cX4_lay 69 = .ok (.iaload, 1) := by decide +kernel
theorem dX4_lay_70 : decode cX4_lay 70 = .ok (.aload_n 0, 1) := by decide +kernel
theorem dX4_lay_71 : decode cX4_lay 71 = .ok (.getfield 18, 3) := by decide +kernel
theorem dX4_lay_74 : decode cX4_lay 74 = .ok (.iload_n 1, 1) := by decide +kernel
theorem dX4_lay_75 : decode cX4_lay 75 = .ok (.iaload, 1) := by decide +kernel
theorem dX4_lay_76 : decode cX4_lay 76 = .ok (.isub, 1) := by decide +kernel
theorem dX4_lay_77 : decode cX4_lay 77 = .ok (.i2l, 1) := by decide +kernel
theorem dX4_lay_78 : decode cX4_lay 78 = .ok (.lstore 12, 2) := by decide +kernel
theorem dX4_lay_80 : decode cX4_lay 80 = .ok (.aload_n 0, 1) := by decide +kernel
theorem dX4_lay_81 : decode cX4_lay 81 = .ok (.getfield 21, 3) := by decide +kernel
theorem dX4_lay_84 : decode cX4_lay 84 = .ok (.iload_n 3, 1) := by decide +kernel
theorem dX4_lay_85 : decode cX4_lay 85 = .ok (.iaload, 1) := by decide +kernel
theorem dX4_lay_86 : decode cX4_lay 86 = .ok (.aload_n 0, 1) := by decide +kernel
theorem dX4_lay_87 : decode cX4_lay 87 = .ok (.getfield 21, 3) := by decide +kernel
theorem dX4_lay_90 : decode cX4_lay 90 = .ok (.iload_n 1, 1) := by decide +kernel
theorem dX4_lay_91 : decode cX4_lay 91 = .ok (.iaload, 1) := by decide +kernel
theorem dX4_lay_92 : decode cX4_lay 92 = .ok (.isub, 1) := by decide +kernel
theorem dX4_lay_93 : decode cX4_lay 93 = .ok (.i2l, 1) := by decide +kernel
theorem dX4_lay_94 : decode cX4_lay 94 = .ok (.lstore 14, 2) := by decide +kernel
theorem dX4_lay_96 : decode cX4_lay 96 = .ok (.aload_n 0, 1) := by decide +kernel
theorem dX4_lay_97 : decode cX4_lay 97 = .ok (.iload_n 1, 1) := by decide +kernel
theorem dX4_lay_98 : decode cX4_lay 98 = .ok (.putfield 28, 3) := by decide +kernel
theorem dX4_lay_101 : decode cX4_lay 101 = .ok (.aload_n 0, 1) := by decide +kernel
theorem dX4_lay_102 : decode cX4_lay 102 = .ok (.lload 6, 2) := by decide +kernel
theorem dX4_lay_104 : decode cX4_lay 104 = .ok (.lload 14, 2) := by decide +kernel
theorem dX4_lay_106 : decode cX4_lay 106 = .ok (.lmul, 1) := by decide +kernel
theorem dX4_lay_107 : decode cX4_lay 107 = .ok (.lload 8, 2) := by decide +kernel
theorem dX4_lay_109 : decode cX4_lay 109 = .ok (.lload 12, 2) := by decide +kernel
theorem dX4_lay_111 : decode cX4_lay 111 = .ok (.lmul, 1) := by decide +kernel
theorem dX4_lay_112 : decode cX4_lay 112 = .ok (.lsub, 1) := by decide +kernel
theorem dX4_lay_113 : decode cX4_lay 113 = .ok (.putfield 31, 3) := by decide +kernel
theorem dX4_lay_116 : decode cX4_lay 116 = .ok (.aload_n 0, 1) := by decide +kernel
theorem dX4_lay_117 : decode cX4_lay 117 = .ok (.lload 8, 2) := by decide +kernel
theorem dX4_lay_119 : decode cX4_lay 119 = .ok (.lload 10, 2) := by decide +kernel
theorem dX4_lay_121 : decode cX4_lay 121 = .ok (.lmul, 1) := by decide +kernel
theorem dX4_lay_122 : decode cX4_lay 122 = .ok (.lload 4, 2) := by decide +kernel
theorem dX4_lay_124 : decode cX4_lay 124 = .ok (.lload 14, 2) := by decide +kernel
theorem dX4_lay_126 : decode cX4_lay 126 = .ok (.lmul, 1) := by decide +kernel
theorem dX4_lay_127 : decode cX4_lay 127 = .ok (.lsub, 1) := by decide +kernel
theorem dX4_lay_128 : decode cX4_lay 128 = .ok (.putfield 35, 3) := by decide +kernel
theorem dX4_lay_131 : decode cX4_lay 131 = .ok (.aload_n 0, 1) := by decide +kernel
theorem dX4_lay_132 : decode cX4_lay 132 = .ok (.lload 4, 2) := by decide +kernel
theorem dX4_lay_134 : decode cX4_lay 134 = .ok (.lload 12, 2) := by decide +kernel
theorem dX4_lay_136 : decode cX4_lay 136 = .ok (.lmul, 1) := by decide +kernel
theorem dX4_lay_137 : decode cX4_lay 137 = .ok (.lload 6, 2) := by decide +kernel
theorem dX4_lay_139 : decode cX4_lay 139 = .ok (.lload 10, 2) := by decide +kernel
theorem dX4_lay_141 : decode cX4_lay 141 = .ok (.lmul, 1) := by decide +kernel
theorem dX4_lay_142 : decode cX4_lay 142 = .ok (.lsub, 1) := by decide +kernel
theorem dX4_lay_143 : decode cX4_lay 143 = .ok (.putfield 38, 3) := by decide +kernel
theorem dX4_lay_146 : decode cX4_lay 146 = .ok (.aload_n 0, 1) := by decide +kernel
theorem dX4_lay_147 : decode cX4_lay 147 = .ok (.getfield 38, 3) := by decide +kernel
theorem dX4_lay_150 : decode cX4_lay 150 = .ok (.lconst 0, 1) := by decide +kernel
theorem dX4_lay_151 : decode cX4_lay 151 = .ok (.lcmp, 1) := by decide +kernel
theorem dX4_lay_152 : decode cX4_lay 152 = .ok (.ifCond .eq 7, 3) := by decide +kernel
theorem dX4_lay_155 : decode cX4_lay 155 = .ok (.iconst 1, 1) := by decide +kernel
theorem dX4_lay_156 : decode cX4_lay 156 = .ok (.goto 4, 3) := by decide +kernel
theorem dX4_lay_159 : decode cX4_lay 159 = .ok (.iconst 0, 1) := by decide +kernel
theorem dX4_lay_160 : decode cX4_lay 160 = .ok (.ireturn, 1) := by decide +kernel
theorem dX4_isOn_0 : decode cX4_isOn 0 = .ok (.aload_n 0, 1) := by decide +kernel
theorem dX4_isOn_1 : decode cX4_isOn 1 = .ok (.getfield 31, 3) := by decide +kernel
theorem dX4_isOn_4 : decode cX4_isOn 4 = .ok (.aload_n 0, 1) := by decide +kernel
theorem dX4_isOn_5 : decode cX4_isOn 5 = .ok (.getfield 15, 3) := by decide +kernel
theorem dX4_isOn_8 : decode cX4_isOn 8 = .ok (.iload_n 1, 1) := by decide +kernel
theorem dX4_isOn_9 : decode cX4_isOn 9 = .ok (.iaload, 1) := by decide +kernel
theorem dX4_isOn_10 : decode cX4_isOn 10 = .ok (.aload_n 0, 1) := by decide +kernel
theorem dX4_isOn_11 : decode cX4_isOn 11 = .ok (.getfield 15, 3) := by decide +kernel
theorem dX4_isOn_14 : decode cX4_isOn 14 = .ok (.aload_n 0, 1) := by decide +kernel
theorem dX4_isOn_15 : decode cX4_isOn 15 = .ok (.getfield 28, 3) := by decide +kernel
theorem dX4_isOn_18 : decode cX4_isOn 18 = .ok (.iaload, 1) := by decide +kernel
theorem dX4_isOn_19 : decode cX4_isOn 19 = .ok (.isub, 1) := by decide +kernel
theorem dX4_isOn_20 : decode cX4_isOn 20 = .ok (.i2l, 1) := by decide +kernel
theorem dX4_isOn_21 : decode cX4_isOn 21 = .ok (.lmul, 1) := by decide +kernel
theorem dX4_isOn_22 : decode cX4_isOn 22 = .ok (.aload_n 0, 1) := by decide +kernel
theorem dX4_isOn_23 : decode cX4_isOn 23 = .ok (.getfield 35, 3) := by decide +kernel
theorem dX4_isOn_26 : decode cX4_isOn 26 = .ok (.aload_n 0, 1) := by decide +kernel
theorem dX4_isOn_27 : decode cX4_isOn 27 = .ok (.getfield 18, 3) := by decide +kernel
theorem dX4_isOn_30 : decode cX4_isOn 30 = .ok (.iload_n 1, 1) := by decide +kernel
theorem dX4_isOn_31 : decode cX4_isOn 31 = .ok (.iaload, 1) := by decide +kernel
theorem dX4_isOn_32 : decode cX4_isOn 32 = .ok (.aload_n 0, 1) := by decide +kernel
theorem dX4_isOn_33 : decode cX4_isOn 33 = .ok (.getfield 18, 3) := by decide +kernel
theorem dX4_isOn_36 : decode cX4_isOn 36 = .ok (.aload_n 0, 1) := by decide +kernel
theorem dX4_isOn_37 : decode cX4_isOn 37 = .ok (.getfield 28, 3) := by decide +kernel
theorem dX4_isOn_40 : decode cX4_isOn 40 = .ok (.iaload, 1) := by decide +kernel
theorem dX4_isOn_41 : decode cX4_isOn 41 = .ok (.isub, 1) := by decide +kernel
theorem dX4_isOn_42 : decode cX4_isOn 42 = .ok (.i2l, 1) := by decide +kernel
theorem dX4_isOn_43 : decode cX4_isOn 43 = .ok (.lmul, 1) := by decide +kernel
theorem dX4_isOn_44 : decode cX4_isOn 44 = .ok (.ladd, 1) := by decide +kernel
theorem dX4_isOn_45 : decode cX4_isOn 45 = .ok (.aload_n 0, 1) := by decide +kernel
theorem dX4_isOn_46 : decode cX4_isOn 46 = .ok (.getfield 38, 3) := by decide +kernel
theorem dX4_isOn_49 : decode cX4_isOn 49 = .ok (.aload_n 0, 1) := by decide +kernel
theorem dX4_isOn_50 : decode cX4_isOn 50 = .ok (.getfield 21, 3) := by decide +kernel
theorem dX4_isOn_53 : decode cX4_isOn 53 = .ok (.iload_n 1, 1) := by decide +kernel
theorem dX4_isOn_54 : decode cX4_isOn 54 = .ok (.iaload, 1) := by decide +kernel
theorem dX4_isOn_55 : decode cX4_isOn 55 = .ok (.aload_n 0, 1) := by decide +kernel
theorem dX4_isOn_56 : decode cX4_isOn 56 = .ok (.getfield 21, 3) := by decide +kernel
theorem dX4_isOn_59 : decode cX4_isOn 59 = .ok (.aload_n 0, 1) := by decide +kernel
theorem dX4_isOn_60 : decode cX4_isOn 60 = .ok (.getfield 28, 3) := by decide +kernel
theorem dX4_isOn_63 : decode cX4_isOn 63 = .ok (.iaload, 1) := by decide +kernel
theorem dX4_isOn_64 : decode cX4_isOn 64 = .ok (.isub, 1) := by decide +kernel
theorem dX4_isOn_65 : decode cX4_isOn 65 = .ok (.i2l, 1) := by decide +kernel
theorem dX4_isOn_66 : decode cX4_isOn 66 = .ok (.lmul, 1) := by decide +kernel
theorem dX4_isOn_67 : decode cX4_isOn 67 = .ok (.ladd, 1) := by decide +kernel
theorem dX4_isOn_68 : decode cX4_isOn 68 = .ok (.lstore_n 3, 1) := by decide +kernel
theorem dX4_isOn_69 : decode cX4_isOn 69 = .ok (.lload_n 3, 1) := by decide +kernel
theorem dX4_isOn_70 : decode cX4_isOn 70 = .ok (.invokestatic 98, 3) := by decide +kernel
theorem dX4_isOn_73 : decode cX4_isOn 73 = .ok (.iload_n 2, 1) := by decide +kernel
theorem dX4_isOn_74 : decode cX4_isOn 74 = .ok (.i2l, 1) := by decide +kernel
theorem dX4_isOn_75 : decode cX4_isOn 75 = .ok (.aload_n 0, 1) := by decide +kernel
theorem dX4_isOn_76 : decode cX4_isOn 76 = .ok (.getfield 38, 3) := by decide +kernel
theorem dX4_isOn_79 : decode cX4_isOn 79 = .ok (.invokestatic 98, 3) := by decide +kernel
theorem dX4_isOn_82 : decode cX4_isOn 82 = .ok (.lmul, 1) := by decide +kernel
theorem dX4_isOn_83 : decode cX4_isOn 83 = .ok (.lcmp, 1) := by decide +kernel
theorem dX4_isOn_84 : decode cX4_isOn 84 = .ok (.ifCond .gt 7, 3) := by decide +kernel
theorem dX4_isOn_87 : decode cX4_isOn 87 = .ok (.iconst 1, 1) := by decide +kernel
theorem dX4_isOn_88 : decode cX4_isOn 88 = .ok (.goto 4, 3) := by decide +kernel
theorem dX4_isOn_91 : decode cX4_isOn 91 = .ok (.iconst 0, 1) := by decide +kernel
theorem dX4_isOn_92 : decode cX4_isOn 92 = .ok (.ireturn, 1) := by decide +kernel
theorem dX4_countOn_0 : decode cX4_countOn 0 = .ok (.iconst 0, 1) := by decide +kernel
theorem dX4_countOn_1 : decode cX4_countOn 1 = .ok (.istore_n 2, 1) := by decide +kernel
theorem dX4_countOn_2 : decode cX4_countOn 2 = .ok (.iconst 0, 1) := by decide +kernel
theorem dX4_countOn_3 : decode cX4_countOn 3 = .ok (.istore_n 3, 1) := by decide +kernel
theorem dX4_countOn_4 : decode cX4_countOn 4 = .ok (.iload_n 3, 1) := by decide +kernel
theorem dX4_countOn_5 : decode cX4_countOn 5 = .ok (.aload_n 0, 1) := by decide +kernel
theorem dX4_countOn_6 : decode cX4_countOn 6 = .ok (.getfield 24, 3) := by decide +kernel
theorem dX4_countOn_9 : decode cX4_countOn 9 = .ok (.if_icmp .ge 36, 3) := by decide +kernel
theorem dX4_countOn_12 : decode cX4_countOn 12 = .ok (.iload_n 2, 1) := by decide +kernel
theorem dX4_countOn_13 : decode cX4_countOn 13 = .ok (.aload_n 0, 1) := by decide +kernel
theorem dX4_countOn_14 : decode cX4_countOn 14 = .ok (.getfield 24, 3) := by decide +kernel
theorem dX4_countOn_17 : decode cX4_countOn 17 = .ok (.iadd, 1) := by decide +kernel
theorem dX4_countOn_18 : decode cX4_countOn 18 = .ok (.iload_n 3, 1) := by decide +kernel
theorem dX4_countOn_19 : decode cX4_countOn 19 = .ok (.isub, 1) := by decide +kernel
theorem dX4_countOn_20 : decode cX4_countOn 20 = .ok (.aload_n 0, 1) := by decide +kernel
theorem dX4_countOn_21 : decode cX4_countOn 21 = .ok (.getfield 41, 3) := by decide +kernel
theorem dX4_countOn_24 : decode cX4_countOn 24 = .ok (.if_icmp .le 21, 3) := by decide +kernel
theorem dX4_countOn_27 : decode cX4_countOn 27 = .ok (.aload_n 0, 1) := by decide +kernel
theorem dX4_countOn_28 : decode cX4_countOn 28 = .ok (.iload_n 3, 1) := by decide +kernel
theorem dX4_countOn_29 : decode cX4_countOn 29 = .ok (.iload_n 1, 1) := by decide +kernel
theorem dX4_countOn_30 : decode cX4_countOn 30 = .ok (.invokevirtual 104, 3) := by decide +kernel
theorem dX4_countOn_33 : decode cX4_countOn 33 = .ok (.ifCond .eq 6, 3) := by decide +kernel
theorem dX4_countOn_36 : decode cX4_countOn 36 = .ok (.iinc 2 1, 3) := by decide +kernel
theorem dX4_countOn_39 : decode cX4_countOn 39 = .ok (.iinc 3 1, 3) := by decide +kernel
theorem dX4_countOn_42 : decode cX4_countOn 42 = .ok (.goto (-38), 3) := by decide +kernel
theorem dX4_countOn_45 : decode cX4_countOn 45 = .ok (.iload_n 2, 1) := by decide +kernel
theorem dX4_countOn_46 : decode cX4_countOn 46 = .ok (.ireturn, 1) := by decide +kernel
theorem dX4_takeBest_0 : decode cX4_takeBest 0 = .ok (.aload_n 0, 1) := by decide +kernel
theorem dX4_takeBest_1 : decode cX4_takeBest 1 = .ok (.aload_n 0, 1) := by decide +kernel
theorem dX4_takeBest_2 : decode cX4_takeBest 2 = .ok (.getfield 44, 3) := by decide +kernel
theorem dX4_takeBest_5 : decode cX4_takeBest 5 = .ok (.aload_n 0, 1) := by decide +kernel
theorem dX4_takeBest_6 : decode cX4_takeBest 6 = .ok (.getfield 47, 3) := by decide +kernel
theorem dX4_takeBest_9 : decode cX4_takeBest 9 = .ok (.aload_n 0, 1) := by decide +kernel
theorem dX4_takeBest_10 : decode cX4_takeBest 10 = .ok (.getfield 50, 3) := by decide +kernel
theorem dX4_takeBest_13 : decode cX4_takeBest 13 = .ok (.invokevirtual 87, 3) := by decide +kernel
theorem dX4_takeBest_16 : decode cX4_takeBest 16 = .ok (.pop, 1) := by decide +kernel
theorem dX4_takeBest_17 : decode cX4_takeBest 17 = .ok (.iconst 0, 1) := by decide +kernel
theorem dX4_takeBest_18 : decode cX4_takeBest 18 = .ok (.istore 4, 2) := by decide +kernel
theorem dX4_takeBest_20 : decode cX4_takeBest 20 = .ok (.iload 4, 2) := by decide +kernel
theorem dX4_takeBest_22 : decode cX4_takeBest 22 = .ok (.aload_n 0, 1) := by decide +kernel
theorem dX4_takeBest_23 : decode cX4_takeBest 23 = .ok (.getfield 24, 3) := by decide +kernel
theorem dX4_takeBest_26 : decode cX4_takeBest 26 = .ok (.if_icmp .ge 32, 3) := by decide +kernel
theorem dX4_takeBest_29 : decode cX4_takeBest 29 = .ok (.aload_n 0, 1) := by decide +kernel
theorem dX4_takeBest_30 : decode cX4_takeBest 30 = .ok (.iload 4, 2) := by decide +kernel
theorem dX4_takeBest_32 : decode cX4_takeBest 32 = .ok (.iload_n 3, 1) := by decide +kernel
theorem dX4_takeBest_33 : decode cX4_takeBest 33 = .ok (.invokevirtual 104, 3) := by decide +kernel
theorem dX4_takeBest_36 : decode cX4_takeBest 36 = .ok (.ifCond .eq 16, 3) := by decide +kernel
theorem dX4_takeBest_39 : decode cX4_takeBest 39 = .ok (.aload_n 1, 1) := by decide +kernel
theorem dX4_takeBest_40 : decode cX4_takeBest 40 = .ok (.getfield 69, 3) := by decide +kernel
theorem dX4_takeBest_43 : decode cX4_takeBest 43 = .ok (.aload_n 0, 1) := by decide +kernel
theorem dX4_takeBest_44 : decode cX4_takeBest 44 = .ok (.getfield 11, 3) := by decide +kernel
theorem dX4_takeBest_47 : decode cX4_takeBest 47 = .ok (.iload 4, 2) := by decide +kernel
theorem dX4_takeBest_49 : decode cX4_takeBest 49 = .ok (.iaload, 1) := by decide +kernel
theorem dX4_takeBest_50 : decode cX4_takeBest 50 = .ok (.iload_n 2, 1) := by decide +kernel
theorem dX4_takeBest_51 : decode cX4_takeBest 51 = .ok (.iastore, 1) := by decide +kernel
theorem dX4_takeBest_52 : decode cX4_takeBest 52 = .ok (.iinc 4 1, 3) := by decide +kernel
theorem dX4_takeBest_55 : decode cX4_takeBest 55 = .ok (.goto (-35), 3) := by decide +kernel
theorem dX4_takeBest_58 : decode cX4_takeBest 58 = .ok (.aload_n 0, 1) := by decide +kernel
theorem dX4_takeBest_59 : decode cX4_takeBest 59 = .ok (.aload_n 1, 1) := by decide +kernel
theorem dX4_takeBest_60 : decode cX4_takeBest 60 = .ok (.invokevirtual 108, 3) := by decide +kernel
theorem dX4_takeBest_63 : decode cX4_takeBest 63 = .ok (.return_, 1) := by decide +kernel
theorem dX4_keepHigh_0 : decode cX4_keepHigh 0 = .ok (.iconst 0, 1) := by decide +kernel
theorem dX4_keepHigh_1 : decode cX4_keepHigh 1 = .ok (.istore_n 2, 1) := by decide +kernel
theorem dX4_keepHigh_2 : decode cX4_keepHigh 2 = .ok (.iconst 0, 1) := by decide +kernel
theorem dX4_keepHigh_3 : decode cX4_keepHigh 3 = .ok (.istore_n 3, 1) := by decide +kernel
theorem dX4_keepHigh_4 : decode cX4_keepHigh 4 = .ok (.iload_n 3, 1) := by decide +kernel
theorem dX4_keepHigh_5 : decode cX4_keepHigh 5 = .ok (.aload_n 0, 1) := by decide +kernel
theorem dX4_keepHigh_6 : decode cX4_keepHigh 6 = .ok (.getfield 24, 3) := by decide +kernel
theorem dX4_keepHigh_9 : decode cX4_keepHigh 9 = .ok (.if_icmp .ge 75, 3) := by decide +kernel
theorem dX4_keepHigh_12 : decode cX4_keepHigh 12 = .ok (.aload_n 1, 1) := by decide +kernel
theorem dX4_keepHigh_13 : decode cX4_keepHigh 13 = .ok (.getfield 69, 3) := by decide +kernel
theorem dX4_keepHigh_16 : decode cX4_keepHigh 16 = .ok (.aload_n 0, 1) := by decide +kernel
theorem dX4_keepHigh_17 : decode cX4_keepHigh 17 = .ok (.getfield 11, 3) := by decide +kernel
theorem dX4_keepHigh_20 : decode cX4_keepHigh 20 = .ok (.iload_n 3, 1) := by decide +kernel
theorem dX4_keepHigh_21 : decode cX4_keepHigh 21 = .ok (.iaload, 1) := by decide +kernel
theorem dX4_keepHigh_22 : decode cX4_keepHigh 22 = .ok (.iaload, 1) := by decide +kernel
theorem dX4_keepHigh_23 : decode cX4_keepHigh 23 = .ok (.iconst 2, 1) := by decide +kernel
theorem dX4_keepHigh_24 : decode cX4_keepHigh 24 = .ok (.if_icmp .ne 54, 3) := by decide +kernel
theorem dX4_keepHigh_27 : decode cX4_keepHigh 27 = .ok (.aload_n 0, 1) := by decide +kernel
theorem dX4_keepHigh_28 : decode cX4_keepHigh 28 = .ok (.getfield 11, 3) := by decide +kernel
theorem dX4_keepHigh_31 : decode cX4_keepHigh 31 = .ok (.iload_n 2, 1) := by decide +kernel
theorem dX4_keepHigh_32 : decode cX4_keepHigh 32 = .ok (.aload_n 0, 1) := by decide +kernel
theorem dX4_keepHigh_33 : decode cX4_keepHigh 33 = .ok (.getfield 11, 3) := by decide +kernel
theorem dX4_keepHigh_36 : decode cX4_keepHigh 36 = .ok (.iload_n 3, 1) := by decide +kernel
theorem dX4_keepHigh_37 : decode cX4_keepHigh 37 = .ok (.iaload, 1) := by decide +kernel
theorem dX4_keepHigh_38 : decode cX4_keepHigh 38 = .ok (.iastore, 1) := by decide +kernel
theorem dX4_keepHigh_39 : decode cX4_keepHigh 39 = .ok (.aload_n 0, 1) := by decide +kernel
theorem dX4_keepHigh_40 : decode cX4_keepHigh 40 = .ok (.getfield 15, 3) := by decide +kernel
theorem dX4_keepHigh_43 : decode cX4_keepHigh 43 = .ok (.iload_n 2, 1) := by decide +kernel
theorem dX4_keepHigh_44 : decode cX4_keepHigh 44 = .ok (.aload_n 0, 1) := by decide +kernel
theorem dX4_keepHigh_45 : decode cX4_keepHigh 45 = .ok (.getfield 15, 3) := by decide +kernel
theorem dX4_keepHigh_48 : decode cX4_keepHigh 48 = .ok (.iload_n 3, 1) := by decide +kernel
theorem dX4_keepHigh_49 : decode cX4_keepHigh 49 = .ok (.iaload, 1) := by decide +kernel
theorem dX4_keepHigh_50 : decode cX4_keepHigh 50 = .ok (.iastore, 1) := by decide +kernel
theorem dX4_keepHigh_51 : decode cX4_keepHigh 51 = .ok (.aload_n 0, 1) := by decide +kernel
theorem dX4_keepHigh_52 : decode cX4_keepHigh 52 = .ok (.getfield 18, 3) := by decide +kernel
theorem dX4_keepHigh_55 : decode cX4_keepHigh 55 = .ok (.iload_n 2, 1) := by decide +kernel
theorem dX4_keepHigh_56 : decode cX4_keepHigh 56 = .ok (.aload_n 0, 1) := by decide +kernel
theorem dX4_keepHigh_57 : decode cX4_keepHigh 57 = .ok (.getfield 18, 3) := by decide +kernel
theorem dX4_keepHigh_60 : decode cX4_keepHigh 60 = .ok (.iload_n 3, 1) := by decide +kernel
theorem dX4_keepHigh_61 : decode cX4_keepHigh 61 = .ok (.iaload, 1) := by decide +kernel
theorem dX4_keepHigh_62 : decode cX4_keepHigh 62 = .ok (.iastore, 1) := by decide +kernel
theorem dX4_keepHigh_63 : decode cX4_keepHigh 63 = .ok (.aload_n 0, 1) := by decide +kernel
theorem dX4_keepHigh_64 : decode cX4_keepHigh 64 = .ok (.getfield 21, 3) := by decide +kernel
theorem dX4_keepHigh_67 : decode cX4_keepHigh 67 = .ok (.iload_n 2, 1) := by decide +kernel
theorem dX4_keepHigh_68 : decode cX4_keepHigh 68 = .ok (.aload_n 0, 1) := by decide +kernel
theorem dX4_keepHigh_69 : decode cX4_keepHigh 69 = .ok (.getfield 21, 3) := by decide +kernel
theorem dX4_keepHigh_72 : decode cX4_keepHigh 72 = .ok (.iload_n 3, 1) := by decide +kernel
theorem dX4_keepHigh_73 : decode cX4_keepHigh 73 = .ok (.iaload, 1) := by decide +kernel
theorem dX4_keepHigh_74 : decode cX4_keepHigh 74 = .ok (.iastore, 1) := by decide +kernel
theorem dX4_keepHigh_75 : decode cX4_keepHigh 75 = .ok (.iinc 2 1, 3) := by decide +kernel
theorem dX4_keepHigh_78 : decode cX4_keepHigh 78 = .ok (.iinc 3 1, 3) := by decide +kernel
theorem dX4_keepHigh_81 : decode cX4_keepHigh 81 = .ok (.goto (-77), 3) := by decide +kernel
theorem dX4_keepHigh_84 : decode cX4_keepHigh 84 = .ok (.aload_n 0, 1) := by decide +kernel
theorem dX4_keepHigh_85 : decode cX4_keepHigh 85 = .ok (.iload_n 2, 1) := by decide +kernel
theorem dX4_keepHigh_86 : decode cX4_keepHigh 86 = .ok (.putfield 24, 3) := by decide +kernel
theorem dX4_keepHigh_89 : decode cX4_keepHigh 89 = .ok (.return_, 1) := by decide +kernel
theorem dX5_init_0 : decode cX5_init 0 = .ok (.aload_n 0, 1) := by decide +kernel
theorem dX5_init_1 : decode cX5_init 1 = .ok (.invokespecial 1, 3) := by decide +kernel
theorem dX5_init_4 : decode cX5_init 4 = .ok (.aload_n 0, 1) := by decide +kernel
theorem dX5_init_5 : decode cX5_init 5 = .ok (.bipush 40, 2) := by decide +kernel
theorem dX5_init_7 : decode cX5_init 7 = .ok (.newarray .int, 2) := by decide +kernel
theorem dX5_init_9 : decode cX5_init 9 = .ok (.putfield 9, 3) := by decide +kernel
theorem dX5_init_12 : decode cX5_init 12 = .ok (.aload_n 0, 1) := by decide +kernel
theorem dX5_init_13 : decode cX5_init 13 = .ok (.iconst (-1), 1) := by decide +kernel
theorem dX5_init_14 : decode cX5_init 14 = .ok (.putfield 13, 3) := by decide +kernel
theorem dX5_init_17 : decode cX5_init 17 = .ok (.aload_n 0, 1) := by decide +kernel
theorem dX5_init_18 : decode cX5_init 18 = .ok (.iconst 0, 1) := by decide +kernel
theorem dX5_init_19 : decode cX5_init 19 = .ok (.putfield 17, 3) := by decide +kernel
theorem dX5_init_22 : decode cX5_init 22 = .ok (.return_, 1) := by decide +kernel
theorem dX5_holds_0 : decode cX5_holds 0 = .ok (.aload_n 0, 1) := by decide +kernel
theorem dX5_holds_1 : decode cX5_holds 1 = .ok (.getfield 13, 3) := by decide +kernel
theorem dX5_holds_4 : decode cX5_holds 4 = .ok (.iconst (-1), 1) := by decide +kernel
theorem dX5_holds_5 : decode cX5_holds 5 = .ok (.if_icmp .eq 7, 3) := by decide +kernel
theorem dX5_holds_8 : decode cX5_holds 8 = .ok (.iconst 1, 1) := by decide +kernel
theorem dX5_holds_9 : decode cX5_holds 9 = .ok (.goto 4, 3) := by decide +kernel
theorem dX5_holds_12 : decode cX5_holds 12 = .ok (.iconst 0, 1) := by decide +kernel
theorem dX5_holds_13 : decode cX5_holds 13 = .ok (.ireturn, 1) := by decide +kernel
theorem dX5_clear_0 : decode cX5_clear 0 = .ok (.aload_n 0, 1) := by decide +kernel
theorem dX5_clear_1 : decode cX5_clear 1 = .ok (.iconst (-1), 1) := by decide +kernel
theorem dX5_clear_2 : decode cX5_clear 2 = .ok (.putfield 13, 3) := by decide +kernel
theorem dX5_clear_5 : decode cX5_clear 5 = .ok (.aload_n 0, 1) := by decide +kernel
theorem dX5_clear_6 : decode cX5_clear 6 = .ok (.iconst 0, 1) := by decide +kernel
theorem dX5_clear_7 : decode cX5_clear 7 = .ok (.putfield 17, 3) := by decide +kernel
theorem dX5_clear_10 : decode cX5_clear 10 = .ok (.return_, 1) := by decide +kernel
theorem dX5_renew_0 : decode cX5_renew 0 = .ok (.aload_n 0, 1) := by decide +kernel
theorem dX5_renew_1 : decode cX5_renew 1 = .ok (.getfield 9, 3) := by decide +kernel
theorem dX5_renew_4 : decode cX5_renew 4 = .ok (.iconst 0, 1) := by decide +kernel
theorem dX5_renew_5 : decode cX5_renew 5 = .ok (.invokestatic 20, 3) := by decide +kernel
theorem dX5_renew_8 : decode cX5_renew 8 = .ok (.aload_n 0, 1) := by decide +kernel
theorem dX5_renew_9 : decode cX5_renew 9 = .ok (.iload_n 1, 1) := by decide +kernel
theorem dX5_renew_10 : decode cX5_renew 10 = .ok (.putfield 13, 3) := by decide +kernel
theorem dX5_renew_13 : decode cX5_renew 13 = .ok (.aload_n 0, 1) := by decide +kernel
theorem dX5_renew_14 : decode cX5_renew 14 = .ok (.iload_n 2, 1) := by decide +kernel
theorem dX5_renew_15 : decode cX5_renew 15 = .ok (.putfield 17, 3) := by decide +kernel
theorem dX5_renew_18 : decode cX5_renew 18 = .ok (.return_, 1) := by decide +kernel
theorem dX5_hasRange_0 : decode cX5_hasRange 0 = .ok (.iload_n 1, 1) := by decide +kernel
theorem dX5_hasRange_1 : decode cX5_hasRange 1 = .ok (.ifCond .lt 25, 3) := by decide +kernel
theorem dX5_hasRange_4 : decode cX5_hasRange 4 = .ok (.iload_n 2, 1) := by decide +kernel
theorem dX5_hasRange_5 : decode cX5_hasRange 5 = .ok (.ifCond .lt 21, 3) := by decide +kernel
theorem dX5_hasRange_8 : decode cX5_hasRange 8 = .ok (.iload_n 1, 1) := by decide +kernel
theorem dX5_hasRange_9 : decode cX5_hasRange 9 = .ok (.i2l, 1) := by decide +kernel
theorem dX5_hasRange_10 : decode cX5_hasRange 10 = .ok (.iload_n 2, 1) := by decide +kernel
theorem dX5_hasRange_11 : decode cX5_hasRange 11 = .ok (.i2l, 1) := by decide +kernel
theorem dX5_hasRange_12 : decode cX5_hasRange 12 = .ok (.ladd, 1) := by decide +kernel
theorem dX5_hasRange_13 : decode cX5_hasRange 13 = .ok (.aload_n 0, 1) := by decide +kernel
theorem dX5_hasRange_14 : decode cX5_hasRange 14 = .ok (.getfield 17, 3) := by decide +kernel
theorem dX5_hasRange_17 : decode cX5_hasRange 17 = .ok (.i2l, 1) := by decide +kernel
theorem dX5_hasRange_18 : decode cX5_hasRange 18 = .ok (.lcmp, 1) := by decide +kernel
theorem dX5_hasRange_19 : decode cX5_hasRange 19 = .ok (.ifCond .gt 7, 3) := by decide +kernel
theorem dX5_hasRange_22 : decode cX5_hasRange 22 = .ok (.iconst 1, 1) := by decide +kernel
theorem dX5_hasRange_23 : decode cX5_hasRange 23 = .ok (.goto 4, 3) := by decide +kernel
theorem dX5_hasRange_26 : decode cX5_hasRange 26 = .ok (.iconst 0, 1) := by decide +kernel
theorem dX5_hasRange_27 : decode cX5_hasRange 27 = .ok (.ireturn, 1) := by decide +kernel
theorem dX5_put_0 : decode cX5_put 0 = .ok (.aload_n 0, 1) := by decide +kernel
theorem dX5_put_1 : decode cX5_put 1 = .ok (.getfield 13, 3) := by decide +kernel
theorem dX5_put_4 : decode cX5_put 4 = .ok (.ifCond .ne 14, 3) := by decide +kernel
theorem dX5_put_7 : decode cX5_put 7 = .ok (.aload_n 0, 1) := by decide +kernel
theorem dX5_put_8 : decode cX5_put 8 = .ok (.getfield 9, 3) := by decide +kernel
theorem dX5_put_11 : decode cX5_put 11 = .ok (.iload_n 1, 1) := by decide +kernel
theorem dX5_put_12 : decode cX5_put 12 = .ok (.iload_n 2, 1) := by decide +kernel
theorem dX5_put_13 : decode cX5_put 13 = .ok (.i2b, 1) := by decide +kernel
theorem dX5_put_14 : decode cX5_put 14 = .ok (.iastore, 1) := by decide +kernel
theorem dX5_put_15 : decode cX5_put 15 = .ok (.goto 29, 3) := by decide +kernel
theorem dX5_put_18 : decode cX5_put 18 = .ok (.aload_n 0, 1) := by decide +kernel
theorem dX5_put_19 : decode cX5_put 19 = .ok (.getfield 13, 3) := by decide +kernel
theorem dX5_put_22 : decode cX5_put 22 = .ok (.iconst 1, 1) := by decide +kernel
theorem dX5_put_23 : decode cX5_put 23 = .ok (.if_icmp .ne 14, 3) := by decide +kernel
theorem dX5_put_26 : decode cX5_put 26 = .ok (.aload_n 0, 1) := by decide +kernel
theorem dX5_put_27 : decode cX5_put 27 = .ok (.getfield 9, 3) := by decide +kernel
theorem dX5_put_30 : decode cX5_put 30 = .ok (.iload_n 1, 1) := by decide +kernel
theorem dX5_put_31 : decode cX5_put 31 = .ok (.iload_n 2, 1) := by decide +kernel
theorem dX5_put_32 : decode cX5_put 32 = .ok (.i2s, 1) := by decide +kernel
theorem dX5_put_33 : decode cX5_put 33 = .ok (.iastore, 1) := by decide +kernel
theorem dX5_put_34 : decode cX5_put 34 = .ok (.goto 10, 3) := by decide +kernel
theorem dX5_put_37 : decode cX5_put 37 = .ok (.aload_n 0, 1) := by decide +kernel
theorem dX5_put_38 : decode cX5_put 38 = .ok (.getfield 9, 3) := by decide +kernel
theorem dX5_put_41 : decode cX5_put 41 = .ok (.iload_n 1, 1) := by decide +kernel
theorem dX5_put_42 : decode cX5_put 42 = .ok (.iload_n 2, 1) := by decide +kernel
theorem dX5_put_43 : decode cX5_put 43 = .ok (.iastore, 1) := by decide +kernel
theorem dX5_put_44 : decode cX5_put 44 = .ok (.return_, 1) := by decide +kernel
theorem dX6_init_0 : decode cX6_init 0 = .ok (.aload_n 0, 1) := by decide +kernel
theorem dX6_init_1 : decode cX6_init 1 = .ok (.invokespecial 1, 3) := by decide +kernel
theorem dX6_init_4 : decode cX6_init 4 = .ok (.aload_n 0, 1) := by decide +kernel
theorem dX6_init_5 : decode cX6_init 5 = .ok (.bipush 80, 2) := by decide +kernel
theorem dX6_init_7 : decode cX6_init 7 = .ok (.newarray .char, 2) := by decide +kernel
theorem dX6_init_9 : decode cX6_init 9 = .ok (.putfield 9, 3) := by decide +kernel
theorem dX6_init_12 : decode cX6_init 12 = .ok (.aload_n 0, 1) := by decide +kernel
theorem dX6_init_13 : decode cX6_init 13 = .ok (.iconst 0, 1) := by decide +kernel
theorem dX6_init_14 : decode cX6_init 14 = .ok (.putfield 13, 3) := by decide +kernel
theorem dX6_init_17 : decode cX6_init 17 = .ok (.return_, 1) := by decide +kernel
theorem dX6_isPlain_0 : decode cX6_isPlain 0 = .ok (.iconst 0, 1) := by decide +kernel
theorem dX6_isPlain_1 : decode cX6_isPlain 1 = .ok (.istore_n 3, 1) := by decide +kernel
theorem dX6_isPlain_2 : decode cX6_isPlain 2 = .ok (.iload_n 3, 1) := by decide +kernel
theorem dX6_isPlain_3 : decode cX6_isPlain 3 = .ok (.iload_n 2, 1) := by decide +kernel
theorem dX6_isPlain_4 : decode cX6_isPlain 4 = .ok (.if_icmp .ge 32, 3) := by decide +kernel
theorem dX6_isPlain_7 : decode cX6_isPlain 7 = .ok (.lload_n 0, 1) := by decide +kernel
theorem dX6_isPlain_8 : decode cX6_isPlain 8 = .ok (.iload_n 3, 1) := by decide +kernel
theorem dX6_isPlain_9 : decode cX6_isPlain 9 = .ok (.invokestatic 17, 3) := by decide +kernel
theorem dX6_isPlain_12 : decode cX6_isPlain 12 = .ok (.istore 4, 2) := by decide +kernel
theorem dX6_isPlain_14 : decode cX6_isPlain 14 = .ok (.iload 4, 2) := by decide +kernel
theorem dX6_isPlain_16 : decode cX6_isPlain 16 = .ok (.bipush 32, 2) := by decide +kernel
theorem dX6_isPlain_18 : decode cX6_isPlain 18 = .ok (.if_icmp .lt 10, 3) := by decide +kernel
theorem dX6_isPlain_21 : decode cX6_isPlain 21 = .ok (.iload 4, 2) := by decide +kernel
theorem dX6_isPlain_23 : decode cX6_isPlain 23 = .ok (.bipush 126, 2) := by decide +kernel
theorem dX6_isPlain_25 : decode cX6_isPlain 25 = .ok (.if_icmp .le 5, 3) := by decide +kernel
theorem dX6_isPlain_28 : decode cX6_isPlain 28 = .ok (.iconst 0, 1) := by decide +kernel
theorem dX6_isPlain_29 : decode cX6_isPlain 29 = .ok (.ireturn, 1) := by decide +kernel
theorem dX6_isPlain_30 : decode cX6_isPlain 30 = .ok (.iinc 3 1, 3) := by decide +kernel
theorem dX6_isPlain_33 : decode cX6_isPlain 33 = .ok (.goto (-31), 3) := by decide +kernel
theorem dX6_isPlain_36 : decode cX6_isPlain 36 = .ok (.iconst 1, 1) := by decide +kernel
theorem dX6_isPlain_37 : decode cX6_isPlain 37 = .ok (.ireturn, 1) := by decide +kernel
theorem dX6_byteOf_0 : decode cX6_byteOf 0 = .ok (.lload_n 0, 1) := by decide +kernel
theorem dX6_byteOf_1 : decode cX6_byteOf 1 = .ok (.bipush 8, 2) := by decide +kernel
theorem dX6_byteOf_3 : decode cX6_byteOf 3 = .ok (.iload_n 2, 1) := by decide +kernel
theorem dX6_byteOf_4 : decode cX6_byteOf 4 = .ok (.imul, 1) := by decide +kernel
theorem dX6_byteOf_5 : decode cX6_byteOf 5 = .ok (.lushr, 1) := by decide +kernel
theorem dX6_byteOf_6 : decode cX6_byteOf 6 = .ok (.l2i, 1) := by decide +kernel
theorem dX6_byteOf_7 : decode cX6_byteOf 7 = .ok (.sipush 255, 3) := by decide +kernel
theorem dX6_byteOf_10 : decode cX6_byteOf 10 = .ok (.iand, 1) := by decide +kernel
theorem dX6_byteOf_11 : decode cX6_byteOf 11 = .ok (.ireturn, 1) := by decide +kernel
theorem dX6_append_0 : decode cX6_append 0 = .ok (.iload_n 3, 1) := by decide +kernel
theorem dX6_append_1 : decode cX6_append 1 = .ok (.iconst 1, 1) := by decide +kernel
theorem dX6_append_2 : decode cX6_append 2 = .ok (.isub, 1) := by decide +kernel
theorem dX6_append_3 : decode cX6_append 3 = .ok (.istore 4, 2) := by decide +kernel
theorem dX6_append_5 : decode cX6_append 5 = .ok (.iload 4, 2) := by decide +kernel
theorem dX6_append_7 : decode cX6_append 7 = .ok (.ifCond .lt 44, 3) := by decide +kernel
theorem dX6_append_10 : decode cX6_append 10 = .ok (.aload_n 0, 1) := by decide +kernel
theorem dX6_append_11 : decode cX6_append 11 = .ok (.getfield 13, 3) := by decide +kernel
