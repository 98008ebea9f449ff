theorem dX6_append_14 : decode cX6_append 14 = .ok (.bipush 80, 2) := by decide +kernel
theorem dX6_append_16 : decode cX6_append 16 = .ok (.if_icmp .ge 35, 3) := by decide +kernel
theorem dX6_append_19 : decode cX6_append 19 = .ok (.aload_n 0, 1) := by decide +kernel
theorem dX6_append_20 : decode cX6_append 20 = .ok (.getfield 9, 3) := by decide +kernel
theorem dX6_append_23 : decode cX6_append 23 = .ok (.aload_n 0, 1) := by decide +kernel
theorem dX6_append_24 : decode cX6_append 24 = .ok (.getfield 13, 3) := by decide +kernel
theorem dX6_append_27 : decode cX6_append 27 = .ok (.lload_n 1, 1) := by decide +kernel
theorem dX6_append_28 : decode cX6_append 28 = .ok (.iload 4, 2) := by decide +kernel
theorem dX6_append_30 : decode cX6_append 30 = .ok (.invokestatic 17, 3) := by decide +kernel
theorem dX6_append_33 : decode cX6_append 33 = .ok (.i2c, 1) := by decide +kernel
theorem dX6_append_34 : decode cX6_append 34 = .ok (.castore, 1) := by decide +kernel
theorem dX6_append_35 : decode cX6_append 35 = .ok (.aload_n 0, 1) := by decide +kernel
theorem dX6_append_36 : decode cX6_append 36 = .ok (.dup, 1) := by decide +kernel
theorem dX6_append_37 : decode cX6_append 37 = .ok (.getfield 13, 3) := by decide +kernel
theorem dX6_append_40 : decode cX6_append 40 = .ok (.iconst 1, 1) := by decide +kernel
theorem dX6_append_41 : decode cX6_append 41 = .ok (.iadd, 1) := by decide +kernel
theorem dX6_append_42 : decode cX6_append 42 = .ok (.putfield 13, 3) := by decide +kernel
theorem dX6_append_45 : decode cX6_append 45 = .ok (.iinc 4 (-1), 3) := by decide +kernel
theorem dX6_append_48 : decode cX6_append 48 = .ok (.goto (-43), 3) := by decide +kernel
theorem dX6_append_51 : decode cX6_append 51 = .ok (.return_, 1) := by decide +kernel
theorem dX7_init_0 : decode cX7_init 0 = .ok (.aload_n 0, 1) := by decide +kernel
theorem dX7_init_1 : decode cX7_init 1 = .ok (.invokespecial 3, 3) := by decide +kernel
theorem dX7_init_4 : decode cX7_init 4 = .ok (.aload_n 0, 1) := by decide +kernel
theorem dX7_init_5 : decode cX7_init 5 = .ok (.bipush 100, 2) := by decide +kernel
theorem dX7_init_7 : decode cX7_init 7 = .ok (.newarray .int, 2) := by decide +kernel
theorem dX7_init_9 : decode cX7_init 9 = .ok (.putfield 11, 3) := by decide +kernel
theorem dX7_init_12 : decode cX7_init 12 = .ok (.aload_n 0, 1) := by decide +kernel
theorem dX7_init_13 : decode cX7_init 13 = .ok (.bipush 100, 2) := by decide +kernel
theorem dX7_init_15 : decode cX7_init 15 = .ok (.newarray .int, 2) := by decide +kernel
theorem dX7_init_17 : decode cX7_init 17 = .ok (.putfield 15, 3) := by decide +kernel
theorem dX7_init_20 : decode cX7_init 20 = .ok (.aload_n 0, 1) := by decide +kernel
theorem dX7_init_21 : decode cX7_init 21 = .ok (.bipush 100, 2) := by decide +kernel
theorem dX7_init_23 : decode cX7_init 23 = .ok (.newarray .int, 2) := by decide +kernel
theorem dX7_init_25 : decode cX7_init 25 = .ok (.putfield 18, 3) := by decide +kernel
theorem dX7_init_28 : decode cX7_init 28 = .ok (.aload_n 0, 1) := by decide +kernel
theorem dX7_init_29 : decode cX7_init 29 = .ok (.bipush 100, 2) := by decide +kernel
theorem dX7_init_31 : decode cX7_init 31 = .ok (.newarray .int, 2) := by decide +kernel
theorem dX7_init_33 : decode cX7_init 33 = .ok (.putfield 21, 3) := by decide +kernel
theorem dX7_init_36 : decode cX7_init 36 = .ok (.aload_n 0, 1) := by decide +kernel
theorem dX7_init_37 : decode cX7_init 37 = .ok (.bipush 100, 2) := by decide +kernel
theorem dX7_init_39 : decode cX7_init 39 = .ok (.newarray .int, 2) := by decide +kernel
theorem dX7_init_41 : decode cX7_init 41 = .ok (.putfield 24, 3) := by decide +kernel
theorem dX7_init_44 : decode cX7_init 44 = .ok (.aload_n 0, 1) := by decide +kernel
theorem dX7_init_45 : decode cX7_init 45 = .ok (.bipush 100, 2) := by decide +kernel
theorem dX7_init_47 : decode cX7_init 47 = .ok (.newarray .int, 2) := by decide +kernel
theorem dX7_init_49 : decode cX7_init 49 = .ok (.putfield 27, 3) := by decide +kernel
theorem dX7_init_52 : decode cX7_init 52 = .ok (.aload_n 0, 1) := by decide +kernel
theorem dX7_init_53 : decode cX7_init 53 = .ok (.bipush 100, 2) := by decide +kernel
theorem dX7_init_55 : decode cX7_init 55 = .ok (.newarray .int, 2) := by decide +kernel
theorem dX7_init_57 : decode cX7_init 57 = .ok (.putfield 30, 3) := by decide +kernel
theorem dX7_init_60 : decode cX7_init 60 = .ok (.aload_n 0, 1) := by decide +kernel
theorem dX7_init_61 : decode cX7_init 61 = .ok (.iconst 4, 1) := by decide +kernel
theorem dX7_init_62 : decode cX7_init 62 = .ok (.newarray .int, 2) := by decide +kernel
theorem dX7_init_64 : decode cX7_init 64 = .ok (.putfield 33, 3) := by decide +kernel
theorem dX7_init_67 : decode cX7_init 67 = .ok (.aload_n 0, 1) := by decide +kernel
theorem dX7_init_68 : decode cX7_init 68 = .ok (.bipush 16, 2) := by decide +kernel
theorem dX7_init_70 : decode cX7_init 70 = .ok (.newarray .boolean, 2) := by decide +kernel
theorem dX7_init_72 : decode cX7_init 72 = .ok (.putfield 36, 3) := by decide +kernel
theorem dX7_init_75 : decode cX7_init 75 = .ok (.aload_n 0, 1) := by decide +kernel
theorem dX7_init_76 : decode cX7_init 76 = .ok (.iconst 0, 1) := by decide +kernel
theorem dX7_init_77 : decode cX7_init 77 = .ok (.putfield 40, 3) := by decide +kernel
theorem dX7_init_80 : decode cX7_init 80 = .ok (.return_, 1) := by decide +kernel
theorem dX7_hasPoint_0 : decode cX7_hasPoint 0 = .ok (.iload_n 1, 1) := by decide +kernel
theorem dX7_hasPoint_1 : decode cX7_hasPoint 1 = .ok (.ifCond .lt 15, 3) := by decide +kernel
theorem dX7_hasPoint_4 : decode cX7_hasPoint 4 = .ok (.iload_n 1, 1) := by decide +kernel
theorem dX7_hasPoint_5 : decode cX7_hasPoint 5 = .ok (.aload_n 0, 1) := by decide +kernel
theorem dX7_hasPoint_6 : decode cX7_hasPoint 6 = .ok (.getfield 40, 3) := by decide +kernel
theorem dX7_hasPoint_9 : decode cX7_hasPoint 9 = .ok (.if_icmp .ge 7, 3) := by decide +kernel
theorem dX7_hasPoint_12 : decode cX7_hasPoint 12 = .ok (.iconst 1, 1) := by decide +kernel
theorem dX7_hasPoint_13 : decode cX7_hasPoint 13 = .ok (.goto 4, 3) := by decide +kernel
theorem dX7_hasPoint_16 : decode cX7_hasPoint 16 = .ok (.iconst 0, 1) := by decide +kernel
theorem dX7_hasPoint_17 : decode cX7_hasPoint 17 = .ok (.ireturn, 1) := by decide +kernel
theorem dX7_height_0 : decode cX7_height 0 = .ok (.aload_n 0, 1) := by decide +kernel
theorem dX7_height_1 : decode cX7_height 1 = .ok (.getfield 18, 3) := by decide +kernel
theorem dX7_height_4 : decode cX7_height 4 = .ok (.iload_n 1, 1) := by decide +kernel
theorem dX7_height_5 : decode cX7_height 5 = .ok (.iaload, 1) := by decide +kernel
theorem dX7_height_6 : decode cX7_height 6 = .ok (.aload_n 0, 1) := by decide +kernel
theorem dX7_height_7 : decode cX7_height 7 = .ok (.getfield 33, 3) := by decide +kernel
theorem dX7_height_10 : decode cX7_height 10 = .ok (.aload_n 0, 1) := by decide +kernel
theorem dX7_height_11 : decode cX7_height 11 = .ok (.getfield 21, 3) := by decide +kernel
theorem dX7_height_14 : decode cX7_height 14 = .ok (.iload_n 1, 1) := by decide +kernel
theorem dX7_height_15 : decode cX7_height 15 = .ok (.iaload, 1) := by decide +kernel
theorem dX7_height_16 : decode cX7_height 16 = .ok (.iaload, 1) := by decide +kernel
theorem dX7_height_17 : decode cX7_height 17 = .ok (.iadd, 1) := by decide +kernel
theorem dX7_height_18 : decode cX7_height 18 = .ok (.ireturn, 1) := by decide +kernel
theorem dX7_square_0 : decode cX7_square 0 = .ok (.aload_n 0, 1) := by decide +kernel
theorem dX7_square_1 : decode cX7_square 1 = .ok (.getfield 11, 3) := by decide +kernel
theorem dX7_square_4 : decode cX7_square 4 = .ok (.iload_n 1, 1) := by decide +kernel
theorem dX7_square_5 : decode cX7_square 5 = .ok (.iaload, 1) := by decide +kernel
theorem dX7_square_6 : decode cX7_square 6 = .ok (.iconst 4, 1) := by decide +kernel
theorem dX7_square_7 : decode cX7_square 7 = .ok (.idiv, 1) := by decide +kernel
theorem dX7_square_8 : decode cX7_square 8 = .ok (.bipush 16, 2) := by decide +kernel
theorem dX7_square_10 : decode cX7_square 10 = .ok (.aload_n 0, 1) := by decide +kernel
theorem dX7_square_11 : decode cX7_square 11 = .ok (.getfield 15, 3) := by decide +kernel
theorem dX7_square_14 : decode cX7_square 14 = .ok (.iload_n 1, 1) := by decide +kernel
theorem dX7_square_15 : decode cX7_square 15 = .ok (.iaload, 1) := by decide +kernel
theorem dX7_square_16 : decode cX7_square 16 = .ok (.iconst 4, 1) := by decide +kernel
theorem dX7_square_17 : decode cX7_square 17 = .ok (.idiv, 1) := by decide +kernel
theorem dX7_square_18 : decode cX7_square 18 = .ok (.imul, 1) := by decide +kernel
theorem dX7_square_19 : decode cX7_square 19 = .ok (.iadd, 1) := by decide +kernel
theorem dX7_square_20 : decode cX7_square 20 = .ok (.ireturn, 1) := by decide +kernel
theorem dX7_canTake_0 : decode cX7_canTake 0 = .ok (.iconst 0, 1) := by decide +kernel
theorem dX7_canTake_1 : decode cX7_canTake 1 = .ok (.istore 4, 2) := by decide +kernel
theorem dX7_canTake_3 : decode cX7_canTake 3 = .ok (.iload 4, 2) := by decide +kernel
theorem dX7_canTake_5 : decode cX7_canTake 5 = .ok (.iload_n 3, 1) := by decide +kernel
theorem dX7_canTake_6 : decode cX7_canTake 6 = .ok (.if_icmp .ge 48, 3) := by decide +kernel
theorem dX7_canTake_9 : decode cX7_canTake 9 = .ok (.iload_n 2, 1) := by decide +kernel
theorem dX7_canTake_10 : decode cX7_canTake 10 = .ok (.iconst 4, 1) := by decide +kernel
theorem dX7_canTake_11 : decode cX7_canTake 11 = .ok (.iload 4, 2) := by decide +kernel
theorem dX7_canTake_13 : decode cX7_canTake 13 = .ok (.imul, 1) := by decide +kernel
theorem dX7_canTake_14 : decode cX7_canTake 14 = .ok (.iadd, 1) := by decide +kernel
theorem dX7_canTake_15 : decode cX7_canTake 15 = .ok (.istore 5, 2) := by decide +kernel
theorem dX7_canTake_17 : decode cX7_canTake 17 = .ok (.aload_n 0, 1) := by decide +kernel
theorem dX7_canTake_18 : decode cX7_canTake 18 = .ok (.aload_n 1, 1) := by decide +kernel
theorem dX7_canTake_19 : decode cX7_canTake 19 = .ok (.iload 5, 2) := by decide +kernel
theorem dX7_canTake_21 : decode cX7_canTake 21 = .ok (.iaload, 1) := by decide +kernel
theorem dX7_canTake_22 : decode cX7_canTake 22 = .ok (.aload_n 1, 1) := by decide +kernel
theorem dX7_canTake_23 : decode cX7_canTake 23 = .ok (.iload 5, 2) := by decide +kernel
theorem dX7_canTake_25 : decode cX7_canTake 25 = .ok (.iconst 1, 1) := by decide +kernel
theorem dX7_canTake_26 : decode cX7_canTake 26 = .ok (.iadd, 1) := by decide +kernel
theorem dX7_canTake_27 : decode cX7_canTake 27 = .ok (.iaload, 1) := by decide +kernel
theorem dX7_canTake_28 : decode cX7_canTake 28 = .ok (.aload_n 1, 1) := by decide +kernel
theorem dX7_canTake_29 : decode cX7_canTake 29 = .ok (.iload 5, 2) := by decide +kernel
theorem dX7_canTake_31 : decode cX7_canTake 31 = .ok (.iconst 2, 1) := by decide +kernel
theorem dX7_canTake_32 : decode cX7_canTake 32 = .ok (.iadd, 1) := by decide +kernel
theorem dX7_canTake_33 : decode cX7_canTake 33 = .ok (.iaload, 1) := by decide +kernel
theorem dX7_canTake_34 : decode cX7_canTake 34 = .ok (.aload_n 1, 1) := by decide +kernel
theorem dX7_canTake_35 : decode cX7_canTake 35 = .ok (.iload 5, 2) := by decide +kernel
theorem dX7_canTake_37 : decode cX7_canTake 37 = .ok (.iconst 3, 1) := by decide +kernel
theorem dX7_canTake_38 : decode cX7_canTake 38 = .ok (.iadd, 1) := by decide +kernel
theorem dX7_canTake_39 : decode cX7_canTake 39 = .ok (.iaload, 1) := by decide +kernel
theorem dX7_canTake_40 : decode cX7_canTake 40 = .ok (.invokevirtual 44, 3) := by decide +kernel
theorem dX7_canTake_43 : decode cX7_canTake 43 = .ok (.ifCond .ne 5, 3) := by decide +kernel
theorem dX7_canTake_46 : decode cX7_canTake 46 = .ok (.iconst 0, 1) := by decide +kernel
theorem dX7_canTake_47 : decode cX7_canTake 47 = .ok (.ireturn, 1) := by decide +kernel
theorem dX7_canTake_48 : decode cX7_canTake 48 = .ok (.iinc 4 1, 3) := by decide +kernel
theorem dX7_canTake_51 : decode cX7_canTake 51 = .ok (.goto (-48), 3) := by decide +kernel
theorem dX7_canTake_54 : decode cX7_canTake 54 = .ok (.iconst 1, 1) := by decide +kernel
theorem dX7_canTake_55 : decode cX7_canTake 55 = .ok (.ireturn, 1) := by decide +kernel
theorem dX7_isPoint_0 : decode cX7_isPoint 0 = .ok (.iload_n 1, 1) := by decide +kernel
theorem dX7_isPoint_1 : decode cX7_isPoint 1 = .ok (.ifCond .lt 61, 3) := by decide +kernel
theorem dX7_isPoint_4 : decode cX7_isPoint 4 = .ok (.iload_n 1, 1) := by decide +kernel
theorem dX7_isPoint_5 : decode cX7_isPoint 5 = .ok (.bipush 63, 2) := by decide +kernel
theorem dX7_isPoint_7 : decode cX7_isPoint 7 = .ok (.if_icmp .gt 55, 3) := by decide +kernel
theorem dX7_isPoint_10 : decode cX7_isPoint 10 = .ok (.iload_n 2, 1) := by decide +kernel
theorem dX7_isPoint_11 : decode cX7_isPoint 11 = .ok (.ifCond .lt 51, 3) := by decide +kernel
theorem dX7_isPoint_14 : decode cX7_isPoint 14 = .ok (.iload_n 2, 1) := by decide +kernel
theorem dX7_isPoint_15 : decode cX7_isPoint 15 = .ok (.bipush 63, 2) := by decide +kernel
theorem dX7_isPoint_17 : decode cX7_isPoint 17 = .ok (.if_icmp .gt 45, 3) := by decide +kernel
theorem dX7_isPoint_20 : decode cX7_isPoint 20 = .ok (.iload_n 3, 1) := by decide +kernel
theorem dX7_isPoint_21 : decode cX7_isPoint 21 = .ok (.sipush (-3000), 3) := by decide +kernel
theorem dX7_isPoint_24 : decode cX7_isPoint 24 = .ok (.if_icmp .lt 38, 3) := by decide +kernel
theorem dX7_isPoint_27 : decode cX7_isPoint 27 = .ok (.iload_n 3, 1) := by decide +kernel
theorem dX7_isPoint_28 : decode cX7_isPoint 28 = .ok (.sipush 3000, 3) := by decide +kernel
theorem dX7_isPoint_31 : decode cX7_isPoint 31 = .ok (.if_icmp .gt 31, 3) := by decide +kernel
theorem dX7_isPoint_34 : decode cX7_isPoint 34 = .ok (.iload 4, 2) := by decide +kernel
theorem dX7_isPoint_36 : decode cX7_isPoint 36 = .ok (.ifCond .lt 26, 3) := by decide +kernel
theorem dX7_isPoint_39 : decode cX7_isPoint 39 = .ok (.iload 4, 2) := by decide +kernel
theorem dX7_isPoint_41 : decode cX7_isPoint 41 = .ok (.iconst 4, 1) := by decide +kernel
theorem dX7_isPoint_42 : decode cX7_isPoint 42 = .ok (.if_icmp .ge 20, 3) := by decide +kernel
theorem dX7_isPoint_45 : decode cX7_isPoint 45 = .ok (.aload_n 0, 1) := by decide +kernel
theorem dX7_isPoint_46 : decode cX7_isPoint 46 = .ok (.getfield 36, 3) := by decide +kernel
theorem dX7_isPoint_49 : decode cX7_isPoint 49 = .ok (.iload_n 1, 1) := by decide +kernel
theorem dX7_isPoint_50 : decode cX7_isPoint 50 = .ok (.iload_n 2, 1) := by decide +kernel
theorem dX7_isPoint_51 : decode cX7_isPoint 51 = .ok (.invokestatic 48, 3) := by decide +kernel
theorem dX7_isPoint_54 : decode cX7_isPoint 54 = .ok (.baload, 1) := by decide +kernel
theorem dX7_isPoint_55 : decode cX7_isPoint 55 = .ok (.ifCond .ne 7, 3) := by decide +kernel
theorem dX7_isPoint_58 : decode cX7_isPoint 58 = .ok (.iconst 1, 1) := by decide +kernel
theorem dX7_isPoint_59 : decode cX7_isPoint 59 = .ok (.goto 4, 3) := by decide +kernel
theorem dX7_isPoint_62 : decode cX7_isPoint 62 = .ok (.iconst 0, 1) := by decide +kernel
theorem dX7_isPoint_63 : decode cX7_isPoint 63 = .ok (.ireturn, 1) := by decide +kernel
theorem dX7_take_0 : decode cX7_take 0 = .ok (.iconst 0, 1) := by decide +kernel
theorem dX7_take_1 : decode cX7_take 1 = .ok (.istore 4, 2) := by decide +kernel
theorem dX7_take_3 : decode cX7_take 3 = .ok (.iload 4, 2) := by decide +kernel
theorem dX7_take_5 : decode cX7_take 5 = .ok (.iload_n 3, 1) := by decide +kernel
theorem dX7_take_6 : decode cX7_take 6 = .ok (.if_icmp .ge 105, 3) := by decide +kernel
theorem dX7_take_9 : decode cX7_take 9 = .ok (.iload_n 2, 1) := by decide +kernel
theorem dX7_take_10 : decode cX7_take 10 = .ok (.iconst 4, 1) := by decide +kernel
theorem dX7_take_11 : decode cX7_take 11 = .ok (.iload 4, 2) := by decide +kernel
theorem dX7_take_13 : decode cX7_take 13 = .ok (.imul, 1) := by decide +kernel
theorem dX7_take_14 : decode cX7_take 14 = .ok (.iadd, 1) := by decide +kernel
theorem dX7_take_15 : decode cX7_take 15 = .ok (.istore 5, 2) := by decide +kernel
theorem dX7_take_17 : decode cX7_take 17 = .ok (.aload_n 0, 1) := by decide +kernel
theorem dX7_take_18 : decode cX7_take 18 = .ok (.getfield 11, 3) := by decide +kernel
theorem dX7_take_21 : decode cX7_take 21 = .ok (.aload_n 0, 1) := by decide +kernel
theorem dX7_take_22 : decode cX7_take 22 = .ok (.getfield 40, 3) := by decide +kernel
theorem dX7_take_25 : decode cX7_take 25 = .ok (.aload_n 1, 1) := by decide +kernel
theorem dX7_take_26 : decode cX7_take 26 = .ok (.iload 5, 2) := by decide +kernel
theorem dX7_take_28 : decode cX7_take 28 = .ok (.iaload, 1) := by decide +kernel
theorem dX7_take_29 : decode cX7_take 29 = .ok (.iastore, 1) := by decide +kernel
theorem dX7_take_30 : decode cX7_take 30 = .ok (.aload_n 0, 1) := by decide +kernel
theorem dX7_take_31 : decode cX7_take 31 = .ok (.getfield 15, 3) := by decide +kernel
theorem dX7_take_34 : decode cX7_take 34 = .ok (.aload_n 0, 1) := by decide +kernel
theorem dX7_take_35 : decode cX7_take 35 = .ok (.getfield 40, 3) := by decide +kernel
theorem dX7_take_38 : decode cX7_take 38 = .ok (.aload_n 1, 1) := by decide +kernel
theorem dX7_take_39 : decode cX7_take 39 = .ok (.iload 5, 2) := by decide +kernel
theorem dX7_take_41 : decode cX7_take 41 = .ok (.iconst 1, 1) := by decide +kernel
theorem dX7_take_42 : decode cX7_take 42 = .ok (.iadd, 1) := by decide +kernel
theorem dX7_take_43 : decode cX7_take 43 = .ok (.iaload, 1) := by decide +kernel
theorem dX7_take_44 : decode cX7_take 44 = .ok (.iastore, 1) := by decide +kernel
theorem dX7_take_45 : decode cX7_take 45 = .ok (.aload_n 0, 1) := by decide +kernel
theorem dX7_take_46 : decode cX7_take 46 = .ok (.getfield 18, 3) := by decide +kernel
theorem dX7_take_49 : decode cX7_take 49 = .ok (.aload_n 0, 1) := by decide +kernel
theorem dX7_take_50 : decode cX7_take 50 = .ok (.getfield 40, 3) := by decide +kernel
theorem dX7_take_53 : decode cX7_take 53 = .ok (.aload_n 1, 1) := by decide +kernel
theorem dX7_take_54 : decode cX7_take 54 = .ok (.iload 5, 2) := by decide +kernel
theorem dX7_take_56 : decode cX7_take 56 = .ok (.iconst 2, 1) := by decide +kernel
theorem dX7_take_57 : decode cX7_take 57 = .ok (.iadd, 1) := by decide +kernel
theorem dX7_take_58 : decode cX7_take 58 = .ok (.iaload, 1) := by decide +kernel
theorem dX7_take_59 : decode cX7_take 59 = .ok (.iastore, 1) := by decide +kernel
theorem dX7_take_60 : decode cX7_take 60 = .ok (.aload_n 0, 1) := by decide +kernel
theorem dX7_take_61 : decode cX7_take 61 = .ok (.getfield 21, 3) := by decide +kernel
theorem dX7_take_64 : decode cX7_take 64 = .ok (.aload_n 0, 1) := by decide +kernel
theorem dX7_take_65 : decode cX7_take 65 = .ok (.getfield 40, 3) := by decide +kernel
theorem dX7_take_68 : decode cX7_take 68 = .ok (.aload_n 1, 1) := by decide +kernel
theorem dX7_take_69 : decode cX7_take 69 = .ok (.iload 5, 2) := by decide +kernel
theorem dX7_take_71 : decode cX7_take 71 = .ok (.iconst 3, 1) := by decide +kernel
theorem dX7_take_72 : decode cX7_take 72 = .ok (.iadd, 1) := by decide +kernel
theorem dX7_take_73 : decode cX7_take 73 = .ok (.iaload, 1) := by decide +kernel
theorem dX7_take_74 : decode cX7_take 74 = .ok (.iastore, 1) := by decide +kernel
theorem dX7_take_75 : decode cX7_take 75 = .ok (.aload_n 0, 1) := by decide +kernel
theorem dX7_take_76 : decode cX7_take 76 = .ok (.getfield 27, 3) := by decide +kernel
theorem dX7_take_79 : decode cX7_take 79 = .ok (.aload_n 0, 1) := by decide +kernel
theorem dX7_take_80 : decode cX7_take 80 = .ok (.getfield 40, 3) := by decide +kernel
theorem dX7_take_83 : decode cX7_take 83 = .ok (.iconst 0, 1) := by decide +kernel
theorem dX7_take_84 : decode cX7_take 84 = .ok (.iastore, 1) := by decide +kernel
theorem dX7_take_85 : decode cX7_take 85 = .ok (.aload_n 0, 1) := by decide +kernel
theorem dX7_take_86 : decode cX7_take 86 = .ok (.aload_n 0, 1) := by decide +kernel
theorem dX7_take_87 : decode cX7_take 87 = .ok (.getfield 40, 3) := by decide +kernel
theorem dX7_take_90 : decode cX7_take 90 = .ok (.iconst 0, 1) := by decide +kernel
theorem dX7_take_91 : decode cX7_take 91 = .ok (.iconst (-1), 1) := by decide +kernel
theorem dX7_take_92 : decode cX7_take 92 = .ok (.invokevirtual 52, 3) := by decide +kernel
theorem dX7_take_95 : decode cX7_take 95 = .ok (.aload_n 0, 1) := by decide +kernel
theorem dX7_take_96 : decode cX7_take 96 = .ok (.dup, 1) := by decide +kernel
theorem dX7_take_97 : decode cX7_take 97 = .ok (.getfield 40, 3) := by decide +kernel
theorem dX7_take_100 : decode cX7_take 100 = .ok (.iconst 1, 1) := by decide +kernel
theorem dX7_take_101 : decode cX7_take 101 = .ok (.iadd, 1) := by decide +kernel
theorem dX7_take_102 : decode cX7_take 102 = .ok (.putfield 40, 3) := by decide +kernel
theorem dX7_take_105 : decode cX7_take 105 = .ok (.iinc 4 1, 3) := by decide +kernel
theorem dX7_take_108 : decode cX7_take 108 = .ok (.goto (-105), 3) := by decide +kernel
theorem dX7_take_111 : decode cX7_take 111 = .ok (.return_, 1) := by decide +kernel
theorem dX7_settle_0 : decode cX7_settle 0 = .ok (.aload_n 0, 1) := by decide +kernel
theorem dX7_settle_1 : decode cX7_settle 1 = .ok (.getfield 24, 3) := by decide +kernel
theorem dX7_settle_4 : decode cX7_settle 4 = .ok (.iload_n 1, 1) := by decide +kernel
theorem dX7_settle_5 : decode cX7_settle 5 = .ok (.iload_n 2, 1) := by decide +kernel
theorem dX7_settle_6 : decode cX7_settle 6 = .ok (.iastore, 1) := by decide +kernel
theorem dX7_settle_7 : decode cX7_settle 7 = .ok (.aload_n 0, 1) := by decide +kernel
theorem dX7_settle_8 : decode cX7_settle 8 = .ok (.getfield 30, 3) := by decide +kernel
theorem dX7_settle_11 : decode cX7_settle 11 = .ok (.iload_n 1, 1) := by decide +kernel
theorem dX7_settle_12 : decode cX7_settle 12 = .ok (.iload_n 3, 1) := by decide +kernel
theorem dX7_settle_13 : decode cX7_settle 13 = .ok (.iastore, 1) := by decide +kernel
theorem dX7_settle_14 : decode cX7_settle 14 = .ok (.return_, 1) := by decide +kernel
theorem dX7_removeTile_0 : decode cX7_removeTile 0 = .ok (.aload_n 0, 1) := by decide +kernel
theorem dX7_removeTile_1 : decode cX7_removeTile 1 = .ok (.getfield 40, 3) := by decide +kernel
theorem dX7_removeTile_4 : decode cX7_removeTile 4 = .ok (.istore_n 2, 1) := by decide +kernel
theorem dX7_removeTile_5 : decode cX7_removeTile 5 = .ok (.iconst 0, 1) := by decide +kernel
theorem dX7_removeTile_6 : decode cX7_removeTile 6 = .ok (.istore_n 3, 1) := by decide +kernel
theorem dX7_removeTile_7 : decode cX7_removeTile 7 = .ok (.iconst 0, 1) := by decide +kernel
theorem dX7_removeTile_8 : decode cX7_removeTile 8 = .ok (.istore 4, 2) := by decide +kernel
theorem dX7_removeTile_10 : decode cX7_removeTile 10 = .ok (.iload 4, 2) := by decide +kernel
theorem dX7_removeTile_12 : decode cX7_removeTile 12 = .ok (.iload_n 2, 1) := by decide +kernel
theorem dX7_removeTile_13 : decode cX7_removeTile 13 = .ok (.if_icmp .ge 40, 3) := by decide +kernel
theorem dX7_removeTile_16 : decode cX7_removeTile 16 = .ok (.aload_n 0, 1) := by decide +kernel
theorem dX7_removeTile_17 : decode cX7_removeTile 17 = .ok (.getfield 11, 3) := by decide +kernel
theorem dX7_removeTile_20 : decode cX7_removeTile 20 = .ok (.iload 4, 2) := by decide +kernel
theorem dX7_removeTile_22 : decode cX7_removeTile 22 = .ok (.iaload, 1) := by decide +kernel
theorem dX7_removeTile_23 : decode cX7_removeTile 23 = .ok (.aload_n 0, 1) := by decide +kernel
theorem dX7_removeTile_24 : decode cX7_removeTile 24 = .ok (.getfield 15, 3) := by decide +kernel
theorem dX7_removeTile_27 : decode cX7_removeTile 27 = .ok (.iload 4, 2) := by decide +kernel
theorem dX7_removeTile_29 : decode cX7_removeTile 29 = .ok (.iaload, 1) := by decide +kernel
theorem dX7_removeTile_30 : decode cX7_removeTile 30 = .ok (.invokestatic 48, 3) := by decide +kernel
theorem dX7_removeTile_33 : decode cX7_removeTile 33 = .ok (.iload_n 1, 1) := by decide +kernel
theorem dX7_removeTile_34 : decode cX7_removeTile 34 = .ok (.if_icmp .eq 13, 3) := by decide +kernel
theorem dX7_removeTile_37 : decode cX7_removeTile 37 = .ok (.aload_n 0, 1) := by decide +kernel
theorem dX7_removeTile_38 : decode cX7_removeTile 38 = .ok (.iload 4, 2) := by decide +kernel
theorem dX7_removeTile_40 : decode cX7_removeTile 40 = .ok (.iload_n 3, 1) := by decide +kernel
theorem dX7_removeTile_41 : decode cX7_removeTile 41 = .ok (.invokevirtual 56, 3) := by decide +kernel
theorem dX7_removeTile_44 : decode cX7_removeTile 44 = .ok (.iinc 3 1, 3) := by decide +kernel
theorem dX7_removeTile_47 : decode cX7_removeTile 47 = .ok (.iinc 4 1, 3) := by decide +kernel
theorem dX7_removeTile_50 : decode cX7_removeTile 50 = .ok (.goto (-40), 3) := by decide +kernel
theorem dX7_removeTile_53 : decode cX7_removeTile 53 = .ok (.aload_n 0, 1) := by decide +kernel
theorem dX7_removeTile_54 : decode cX7_removeTile 54 = .ok (.iload_n 3, 1) := by decide +kernel
theorem dX7_removeTile_55 : decode cX7_removeTile 55 = .ok (.putfield 40, 3) := by decide +kernel
theorem dX7_removeTile_58 : decode cX7_removeTile 58 = .ok (.iload_n 2, 1) := by decide +kernel
theorem dX7_removeTile_59 : decode cX7_removeTile 59 = .ok (.iload_n 3, 1) := by decide +kernel
theorem dX7_removeTile_60 : decode cX7_removeTile 60 = .ok (.isub, 1) := by decide +kernel
theorem dX7_removeTile_61 : decode cX7_removeTile 61 = .ok (.ireturn, 1) := by decide +kernel
theorem dX7_move_0 : decode cX7_move 0 = .ok (.aload_n 0, 1) := by decide +kernel
theorem dX7_move_1 : decode cX7_move 1 = .ok (.getfield 11, 3) := by decide +kernel
theorem dX7_move_4 : decode cX7_move 4 = .ok (.iload_n 2, 1) := by decide +kernel
theorem dX7_move_5 : decode cX7_move 5 = .ok (.aload_n 0, 1) := by decide +kernel
theorem dX7_move_6 : decode cX7_move 6 = .ok (.getfield 11, 3) := by decide +kernel
theorem dX7_move_9 : decode cX7_move 9 = .ok (.iload_n 1, 1) := by decide +kernel
theorem dX7_move_10 : decode cX7_move 10 = .ok (.iaload, 1) := by decide +kernel
theorem dX7_move_11 : decode cX7_move 11 = .ok (.iastore, 1) := by decide +kernel
theorem dX7_move_12 : decode cX7_move 12 = .ok (.aload_n 0, 1) := by decide +kernel
theorem dX7_move_13 : decode cX7_move 13 = .ok (.getfield 15, 3) := by decide +kernel
theorem dX7_move_16 : decode cX7_move 16 = .ok (.iload_n 2, 1) := by decide +kernel
theorem dX7_move_17 : decode cX7_move 17 = .ok (.aload_n 0, 1) := by decide +kernel
theorem dX7_move_18 : decode cX7_move 18 = .ok (.getfield 15, 3) := by decide +kernel
theorem dX7_move_21 : decode cX7_move 21 = .ok (.iload_n 1, 1) := by decide +kernel
theorem dX7_move_22 : decode cX7_move 22 = .ok (.iaload, 1) := by decide +kernel
theorem dX7_move_23 : decode cX7_move 23 = .ok (.iastore, 1) := by decide +kernel
theorem dX7_move_24 : decode cX7_move 24 = .ok (.aload_n 0, 1) := by decide +kernel
theorem dX7_move_25 : decode cX7_move 25 = .ok (.getfield 18, 3) := by decide +kernel
theorem dX7_move_28 : decode cX7_move 28 = .ok (.iload_n 2, 1) := by decide +kernel
theorem dX7_move_29 : decode cX7_move 29 = .ok (.aload_n 0, 1) := by decide +kernel
theorem dX7_move_30 : decode cX7_move 30 = .ok (.getfield 18, 3) := by decide +kernel
theorem dX7_move_33 : decode cX7_move 33 = .ok (.iload_n 1, 1) := by decide +kernel
theorem dX7_move_34 : decode cX7_move 34 = .ok (.iaload, 1) := by decide +kernel
theorem dX7_move_35 : decode cX7_move 35 = .ok (.iastore, 1) := by decide +kernel
theorem dX7_move_36 : decode cX7_move 36 = .ok (.aload_n 0, 1) := by decide +kernel
theorem dX7_move_37 : decode cX7_move 37 = .ok (.getfield 21, 3) := by decide +kernel
theorem dX7_move_40 : decode cX7_move 40 = .ok (.iload_n 2, 1) := by decide +kernel
theorem dX7_move_41 : decode cX7_move 41 = .ok (.aload_n 0, 1) := by decide +kernel
theorem dX7_move_42 : decode cX7_move 42 = .ok (.getfield 21, 3) := by decide +kernel
theorem dX7_move_45 : decode cX7_move 45 = .ok (.iload_n 1, 1) := by decide +kernel
theorem dX7_move_46 : decode cX7_move 46 = .ok (.iaload, 1) := by decide +kernel
theorem dX7_move_47 : decode cX7_move 47 = .ok (.iastore, 1) := by decide +kernel
theorem dX7_move_48 : decode cX7_move 48 = .ok (.aload_n 0, 1) := by decide +kernel
theorem dX7_move_49 : decode cX7_move 49 = .ok (.getfield 24, 3) := by decide +kernel
theorem dX7_move_52 : decode cX7_move 52 = .ok (.iload_n 2, 1) := by decide +kernel
theorem dX7_move_53 : decode cX7_move 53 = .ok (.aload_n 0, 1) := by decide +kernel
theorem dX7_move_54 : decode cX7_move 54 = .ok (.getfield 24, 3) := by decide +kernel
theorem dX7_move_57 : decode cX7_move 57 = .ok (.iload_n 1, 1) := by decide +kernel
theorem dX7_move_58 : decode cX7_move 58 = .ok (.iaload, 1) := by decide +kernel
theorem dX7_move_59 : decode cX7_move 59 = .ok (.iastore, 1) := by decide +kernel
theorem dX7_move_60 : decode cX7_move 60 = .ok (.aload_n 0, 1) := by decide +kernel
theorem dX7_move_61 : decode cX7_move 61 = .ok (.getfield 27, 3) := by decide +kernel
theorem dX7_move_64 : decode cX7_move 64 = .ok (.iload_n 2, 1) := by decide +kernel
theorem dX7_move_65 : decode cX7_move 65 = .ok (.aload_n 0, 1) := by decide +kernel
theorem dX7_move_66 : decode cX7_move 66 = .ok (.getfield 27, 3) := by decide +kernel
theorem dX7_move_69 : decode cX7_move 69 = .ok (.iload_n 1, 1) := by decide +kernel
theorem dX7_move_70 : decode cX7_move 70 = .ok (.iaload, 1) := by decide +kernel
theorem dX7_move_71 : decode cX7_move 71 = .ok (.iastore, 1) := by decide +kernel
theorem dX7_move_72 : decode cX7_move 72 = .ok (.aload_n 0, 1) := by decide +kernel
theorem dX7_move_73 : decode cX7_move 73 = .ok (.getfield 30, 3) := by decide +kernel
theorem dX7_move_76 : decode cX7_move 76 = .ok (.iload_n 2, 1) := by decide +kernel
theorem dX7_move_77 : decode cX7_move 77 = .ok (.aload_n 0, 1) := by decide +kernel
theorem dX7_move_78 : decode cX7_move 78 = .ok (.getfield 30, 3) := by decide +kernel
theorem dX7_move_81 : decode cX7_move 81 = .ok (.iload_n 1, 1) := by decide +kernel
theorem dX7_move_82 : decode cX7_move 82 = .ok (.iaload, 1) := by decide +kernel
theorem dX7_move_83 : decode cX7_move 83 = .ok (.iastore, 1) := by decide +kernel
theorem dX7_move_84 : decode cX7_move 84 = .ok (.return_, 1) := by decide +kernel
theorem dX7_touchesLost_0 : decode cX7_touchesLost 0 = .ok (.iload_n 2, 1) := by decide +kernel
theorem dX7_touchesLost_1 : decode cX7_touchesLost 1 = .ok (.bipush 16, 2) := by decide +kernel
theorem dX7_touchesLost_3 : decode cX7_touchesLost 3 = .ok (.idiv, 1) := by decide +kernel
theorem dX7_touchesLost_4 : decode cX7_touchesLost 4 = .ok (.istore 5, 2) := by decide +kernel
theorem dX7_touchesLost_6 : decode cX7_touchesLost 6 = .ok (.iload 5, 2) := by decide +kernel
theorem dX7_touchesLost_8 : decode cX7_touchesLost 8 = .ok (.iload 4, 2) := by decide +kernel
theorem dX7_touchesLost_10 : decode cX7_touchesLost 10 = .ok (.bipush 16, 2) := by decide +kernel
theorem dX7_touchesLost_12 : decode cX7_touchesLost 12 = .ok (.idiv, 1) := by decide +kernel
theorem dX7_touchesLost_13 : decode cX7_touchesLost 13 = .ok (.if_icmp .gt 47, 3) := by decide +kernel
theorem dX7_touchesLost_16 : decode cX7_touchesLost 16 = .ok (.iload_n 1, 1) := by decide +kernel
theorem dX7_touchesLost_17 : decode cX7_touchesLost 17 = .ok (.bipush 16, 2) := by decide +kernel
theorem dX7_touchesLost_19 : decode cX7_touchesLost 19 = .ok (.idiv, 1) := by decide +kernel
theorem dX7_touchesLost_20 : decode cX7_touchesLost 20 = .ok (.istore 6, 2) := by decide +kernel
theorem dX7_touchesLost_22 : decode cX7_touchesLost 22 = .ok (.iload 6, 2) := by decide +kernel
theorem dX7_touchesLost_24 : decode cX7_touchesLost 24 = .ok (.iload_n 3, 1) := by decide +kernel
theorem dX7_touchesLost_25 : decode cX7_touchesLost 25 = .ok (.bipush 16, 2) := by decide +kernel
theorem dX7_touchesLost_27 : decode cX7_touchesLost 27 = .ok (.idiv, 1) := by decide +kernel
theorem dX7_touchesLost_28 : decode cX7_touchesLost 28 = .ok (.if_icmp .gt 26, 3) := by decide +kernel
theorem dX7_touchesLost_31 : decode cX7_touchesLost 31 = .ok (.aload_n 0, 1) := by decide +kernel
theorem dX7_touchesLost_32 : decode cX7_touchesLost 32 = .ok (.getfield 36, 3) := by decide +kernel
theorem dX7_touchesLost_35 : decode cX7_touchesLost 35 = .ok (.iload 6, 2) := by decide +kernel
theorem dX7_touchesLost_37 : decode cX7_touchesLost 37 = .ok (.iconst 4, 1) := by decide +kernel
theorem dX7_touchesLost_38 : decode cX7_touchesLost 38 = .ok (.iload 5, 2) := by decide +kernel
theorem dX7_touchesLost_40 : decode cX7_touchesLost 40 = .ok (.imul, 1) := by decide +kernel
theorem dX7_touchesLost_41 : decode cX7_touchesLost 41 = .ok (.iadd, 1) := by decide +kernel
theorem dX7_touchesLost_42 : decode cX7_touchesLost 42 = .ok (.baload, 1) := by decide +kernel
theorem dX7_touchesLost_43 : decode cX7_touchesLost 43 = .ok (.ifCond .eq 5, 3) := by decide +kernel
theorem dX7_touchesLost_46 : decode cX7_touchesLost 46 = .ok (.iconst 1, 1) := by decide +kernel
theorem dX7_touchesLost_47 : decode cX7_touchesLost 47 = .ok (.ireturn, 1) := by decide +kernel
theorem dX7_touchesLost_48 : decode cX7_touchesLost 48 = .ok (.iinc 6 1, 3) := by decide +kernel
theorem dX7_touchesLost_51 : decode cX7_touchesLost 51 = .ok (.goto (-29), 3) := by decide +kernel
theorem dX7_touchesLost_54 : decode cX7_touchesLost 54 = .ok (.iinc 5 1, 3) := by decide +kernel
theorem dX7_touchesLost_57 : decode cX7_touchesLost 57 = .ok (.goto (-51), 3) := by decide +kernel
theorem dX7_touchesLost_60 : decode cX7_touchesLost 60 = .ok (.iconst 0, 1) := by decide +kernel
theorem dX7_touchesLost_61 : decode cX7_touchesLost 61 = .ok (.ireturn, 1) := by decide +kernel
theorem dX7_countInBox_0 : decode cX7_countInBox 0 = .ok (.iconst 0, 1) := by decide +kernel
theorem dX7_countInBox_1 : decode cX7_countInBox 1 = .ok (.istore 5, 2) := by decide +kernel
theorem dX7_countInBox_3 : decode cX7_countInBox 3 = .ok (.iconst 0, 1) := by decide +kernel
theorem dX7_countInBox_4 : decode cX7_countInBox 4 = .ok (.istore 6, 2) := by decide +kernel
theorem dX7_countInBox_6 : decode cX7_countInBox 6 = .ok (.iload 6, 2) := by decide +kernel
theorem dX7_countInBox_8 : decode cX7_countInBox 8 = .ok (.aload_n 0, 1) := by decide +kernel
theorem dX7_countInBox_9 : decode cX7_countInBox 9 = .ok (.getfield 40, 3) := by decide +kernel
theorem dX7_countInBox_12 : decode cX7_countInBox 12 = .ok (.if_icmp .ge 57, 3) := by decide +kernel
theorem dX7_countInBox_15 : decode cX7_countInBox 15 = .ok (.aload_n 0, 1) := by decide +kernel
theorem dX7_countInBox_16 : decode cX7_countInBox 16 = .ok (.getfield 11, 3) := by decide +kernel
theorem dX7_countInBox_19 : decode cX7_countInBox 19 = .ok (.iload 6, 2) := by decide +kernel
theorem dX7_countInBox_21 : decode cX7_countInBox 21 = .ok (.iaload, 1) := by decide +kernel
theorem dX7_countInBox_22 : decode cX7_countInBox 22 = .ok (.iload_n 1, 1) := by decide +kernel
theorem dX7_countInBox_23 : decode cX7_countInBox 23 = .ok (.if_icmp .lt 40, 3) := by decide +kernel
theorem dX7_countInBox_26 : decode cX7_countInBox 26 = .ok (.aload_n 0, 1) := by decide +kernel
theorem dX7_countInBox_27 : decode cX7_countInBox 27 = .ok (.getfield 11, 3) := by decide +kernel
theorem dX7_countInBox_30 : decode cX7_countInBox 30 = .ok (.iload 6, 2) := by decide +kernel
theorem dX7_countInBox_32 : decode cX7_countInBox 32 = .ok (.iaload, 1) := by decide +kernel
theorem dX7_countInBox_33 : decode cX7_countInBox 33 = .ok (.iload_n 3, 1) := by decide +kernel
theorem dX7_countInBox_34 : decode cX7_countInBox 34 = .ok (.if_icmp .gt 29, 3) := by decide +kernel
theorem dX7_countInBox_37 : decode cX7_countInBox 37 = .ok (.aload_n 0, 1) := by decide +kernel
theorem dX7_countInBox_38 : decode cX7_countInBox 38 = .ok (.getfield 15, 3) := by decide +kernel
theorem dX7_countInBox_41 : decode cX7_countInBox 41 = .ok (.iload 6, 2) := by decide +kernel
theorem dX7_countInBox_43 : decode cX7_countInBox 43 = .ok (.iaload, 1) := by decide +kernel
theorem dX7_countInBox_44 : decode cX7_countInBox 44 = .ok (.iload_n 2, 1) := by decide +kernel
theorem dX7_countInBox_45 : decode cX7_countInBox 45 = .ok (.if_icmp .lt 18, 3) := by decide +kernel
theorem dX7_countInBox_48 : decode cX7_countInBox 48 = .ok (.aload_n 0, 1) := by decide +kernel
theorem dX7_countInBox_49 : decode cX7_countInBox 49 = .ok (.getfield 15, 3) := by decide +kernel
theorem dX7_countInBox_52 : decode cX7_countInBox 52 = .ok (.iload 6, 2) := by decide +kernel
theorem dX7_countInBox_54 : decode cX7_countInBox 54 = .ok (.iaload, 1) := by decide +kernel
theorem dX7_countInBox_55 : decode cX7_countInBox 55 = .ok (.iload 4, 2) := by decide +kernel
theorem dX7_countInBox_57 : decode cX7_countInBox 57 = .ok (.if_icmp .gt 6, 3) := by decide +kernel
theorem dX7_countInBox_60 : decode cX7_countInBox 60 = .ok (.iinc 5 1, 3) := by decide +kernel
theorem dX7_countInBox_63 : decode cX7_countInBox 63 = .ok (.iinc 6 1, 3) := by decide +kernel
theorem dX7_countInBox_66 : decode cX7_countInBox 66 = .ok (.goto (-60), 3) := by decide +kernel
theorem dX7_countInBox_69 : decode cX7_countInBox 69 = .ok (.iload 5, 2) := by decide +kernel
theorem dX7_countInBox_71 : decode cX7_countInBox 71 = .ok (.ireturn, 1) := by decide +kernel
theorem dX7_countKind_0 : decode cX7_countKind 0 = .ok (.iconst 0, 1) := by decide +kernel
theorem dX7_countKind_1 : decode cX7_countKind 1 = .ok (.istore_n 2, 1) := by decide +kernel
theorem dX7_countKind_2 : decode cX7_countKind 2 = .ok (.iconst 0, 1) := by decide +kernel
theorem dX7_countKind_3 : decode cX7_countKind 3 = .ok (.istore_n 3, 1) := by decide +kernel
theorem dX7_countKind_4 : decode cX7_countKind 4 = .ok (.iload_n 3, 1) := by decide +kernel
theorem dX7_countKind_5 : decode cX7_countKind 5 = .ok (.aload_n 0, 1) := by decide +kernel
theorem dX7_countKind_6 : decode cX7_countKind 6 = .ok (.getfield 40, 3) := by decide +kernel
theorem dX7_countKind_9 : decode cX7_countKind 9 = .ok (.if_icmp .ge 22, 3) := by decide +kernel
theorem dX7_countKind_12 : decode cX7_countKind 12 = .ok (.aload_n 0, 1) := by decide +kernel
theorem dX7_countKind_13 : decode cX7_countKind 13 = .ok (.getfield 24, 3) := by decide +kernel
theorem dX7_countKind_16 : decode cX7_countKind 16 = .ok (.iload_n 3, 1) := by decide +kernel
theorem dX7_countKind_17 : decode cX7_countKind 17 = .ok (.iaload, 1) := by decide +kernel
theorem dX7_countKind_18 : decode cX7_countKind 18 = .ok (.iload_n 1, 1) := by decide +kernel
theorem dX7_countKind_19 : decode cX7_countKind 19 = .ok (.if_icmp .ne 6, 3) := by decide +kernel
theorem dX7_countKind_22 : decode cX7_countKind 22 = .ok (.iinc 2 1, 3) := by decide +kernel
theorem dX7_countKind_25 : decode cX7_countKind 25 = .ok (.iinc 3 1, 3) := by decide +kernel
theorem dX7_countKind_28 : decode cX7_countKind 28 = .ok (.goto (-24), 3) := by decide +kernel
theorem dX7_countKind_31 : decode cX7_countKind 31 = .ok (.iload_n 2, 1) := by decide +kernel
theorem dX7_countKind_32 : decode cX7_countKind 32 = .ok (.ireturn, 1) := by decide +kernel
theorem dX7_countLost_0 : decode cX7_countLost 0 = .ok (.iconst 0, 1) := by decide +kernel
theorem dX7_countLost_1 : decode cX7_countLost 1 = .ok (.istore_n 1, 1) := by decide +kernel
theorem dX7_countLost_2 : decode cX7_countLost 2 = .ok (.aload_n 0, 1) := by decide +kernel
theorem dX7_countLost_3 : decode cX7_countLost 3 = .ok (.getfield 36, 3) := by decide +kernel
theorem dX7_countLost_6 : decode cX7_countLost 6 = .ok (.astore_n 2, 1) := by decide +kernel
theorem dX7_countLost_7 : decode cX7_countLost 7 = .ok (.aload_n 2, 1) := by decide +kernel
theorem dX7_countLost_8 : decode cX7_countLost 8 = .ok (.arraylength, 1) := by decide +kernel
theorem dX7_countLost_9 : decode cX7_countLost 9 = .ok (.istore_n 3, 1) := by decide +kernel
theorem dX7_countLost_10 : decode cX7_countLost 10 = .ok (.iconst 0, 1) := by decide +kernel
theorem dX7_countLost_11 : decode cX7_countLost 11 = .ok (.istore 4, 2) := by decide +kernel
theorem dX7_countLost_13 : decode cX7_countLost 13 = .ok (.iload 4, 2) := by decide +kernel
theorem dX7_countLost_15 : decode cX7_countLost 15 = .ok (.iload_n 3, 1) := by decide +kernel
theorem dX7_countLost_16 : decode cX7_countLost 16 = .ok (.if_icmp .ge 23, 3) := by decide +kernel
theorem dX7_countLost_19 : decode cX7_countLost 19 = .ok (.aload_n 2, 1) := by decide +kernel
theorem dX7_countLost_20 : decode cX7_countLost 20 = .ok (.iload 4, 2) := by decide +kernel
theorem dX7_countLost_22 : decode cX7_countLost 22 = .ok (.baload, 1) := by decide +kernel
theorem dX7_countLost_23 : decode cX7_countLost 23 = .ok (.istore 5, 2) := by decide +kernel
theorem dX7_countLost_25 : decode cX7_countLost 25 = .ok (.iload 5, 2) := by decide +kernel
theorem dX7_countLost_27 : decode cX7_countLost 27 = .ok (.ifCond .eq 6, 3) := by decide +kernel
theorem dX7_countLost_30 : decode cX7_countLost 30 = .ok (.iinc 1 1, 3) := by decide +kernel
theorem dX7_countLost_33 : decode cX7_countLost 33 = .ok (.iinc 4 1, 3) := by decide +kernel
theorem dX7_countLost_36 : decode cX7_countLost 36 = .ok (.goto (-23), 3) := by decide +kernel
theorem dX7_countLost_39 : decode cX7_countLost 39 = .ok (.iload_n 1, 1) := by decide +kernel
theorem dX7_countLost_40 : decode cX7_countLost 40 = .ok (.ireturn, 1) := by decide +kernel
theorem dX7_isPair_0 : decode cX7_isPair 0 = .ok (.aload_n 0, 1) := by decide +kernel
theorem dX7_isPair_1 : decode cX7_isPair 1 = .ok (.getfield 21, 3) := by decide +kernel
theorem dX7_isPair_4 : decode cX7_isPair 4 = .ok (.iload_n 1, 1) := by decide +kernel
theorem dX7_isPair_5 : decode cX7_isPair 5 = .ok (.iaload, 1) := by decide +kernel
theorem dX7_isPair_6 : decode cX7_isPair 6 = .ok (.aload_n 0, 1) := by decide +kernel
theorem dX7_isPair_7 : decode cX7_isPair 7 = .ok (.getfield 21, 3) := by decide +kernel
theorem dX7_isPair_10 : decode cX7_isPair 10 = .ok (.iload_n 2, 1) := by decide +kernel
theorem dX7_isPair_11 : decode cX7_isPair 11 = .ok (.iaload, 1) := by decide +kernel
theorem dX7_isPair_12 : decode cX7_isPair 12 = .ok (.if_icmp .eq 20, 3) := by decide +kernel
theorem dX7_isPair_15 : decode cX7_isPair 15 = .ok (.aload_n 0, 1) := by decide +kernel
theorem dX7_isPair_16 : decode cX7_isPair 16 = .ok (.iload_n 1, 1) := by decide +kernel
theorem dX7_isPair_17 : decode cX7_isPair 17 = .ok (.invokevirtual 60, 3) := by decide +kernel
theorem dX7_isPair_20 : decode cX7_isPair 20 = .ok (.aload_n 0, 1) := by decide +kernel
theorem dX7_isPair_21 : decode cX7_isPair 21 = .ok (.iload_n 2, 1) := by decide +kernel
theorem dX7_isPair_22 : decode cX7_isPair 22 = .ok (.invokevirtual 60, 3) := by decide +kernel
theorem dX7_isPair_25 : decode cX7_isPair 25 = .ok (.if_icmp .ne 7, 3) := by decide +kernel
theorem dX7_isPair_28 : decode cX7_isPair 28 = .ok (.iconst 1, 1) := by decide +kernel
theorem dX7_isPair_29 : decode cX7_isPair 29 = .ok (.goto 4, 3) := by decide +kernel
theorem dX7_isPair_32 : decode cX7_isPair 32 = .ok (.iconst 0, 1) := by decide +kernel
theorem dX7_isPair_33 : decode cX7_isPair 33 = .ok (.ireturn, 1) := by decide +kernel
theorem dX7_sumOfSquares_0 : decode cX7_sumOfSquares 0 = .ok (.lconst 0, 1) := by decide +kernel
theorem dX7_sumOfSquares_1 : decode cX7_sumOfSquares 1 = .ok (.lstore_n 1, 1) := by decide +kernel
theorem dX7_sumOfSquares_2 : decode cX7_sumOfSquares 2 = .ok (.iconst 0, 1) := by decide +kernel
theorem dX7_sumOfSquares_3 : decode cX7_sumOfSquares 3 = .ok (.istore_n 3, 1) := by decide +kernel
theorem dX7_sumOfSquares_4 : decode cX7_sumOfSquares 4 = .ok (.iload_n 3, 1) := by decide +kernel
theorem dX7_sumOfSquares_5 : decode cX7_sumOfSquares 5 = .ok (.aload_n 0, 1) := by decide +kernel
theorem dX7_sumOfSquares_6 : decode cX7_sumOfSquares 6 = .ok (.getfield 40, 3) := by decide +kernel
theorem dX7_sumOfSquares_9 : decode cX7_sumOfSquares 9 = .ok (.if_icmp .ge 57, 3) := by decide +kernel
theorem dX7_sumOfSquares_12 : decode cX7_sumOfSquares 12 = .ok (.iconst 0, 1) := by decide +kernel
theorem dX7_sumOfSquares_13 : decode cX7_sumOfSquares 13 = .ok (.istore 4, 2) := by decide +kernel
theorem dX7_sumOfSquares_15 : decode cX7_sumOfSquares 15 = .ok (.iload 4, 2) := by decide +kernel
theorem dX7_sumOfSquares_17 : decode cX7_sumOfSquares 17 = .ok (.iload_n 3, 1) := by decide +kernel
theorem dX7_sumOfSquares_18 : decode cX7_sumOfSquares 18 = .ok (.if_icmp .ge 42, 3) := by decide +kernel
theorem dX7_sumOfSquares_21 : decode cX7_sumOfSquares 21 = .ok (.aload_n 0, 1) := by decide +kernel
theorem dX7_sumOfSquares_22 : decode cX7_sumOfSquares 22 = .ok (.iload_n 3, 1) := by decide +kernel
theorem dX7_sumOfSquares_23 : decode cX7_sumOfSquares 23 = .ok (.iload 4, 2) := by decide +kernel
theorem dX7_sumOfSquares_25 : decode cX7_sumOfSquares 25 = .ok (.invokevirtual 64, 3) := by decide +kernel
theorem dX7_sumOfSquares_28 : decode cX7_sumOfSquares 28 = .ok (.ifCond .eq 26, 3) := by decide +kernel
theorem dX7_sumOfSquares_31 : decode cX7_sumOfSquares 31 = .ok (.aload_n 0, 1) := by decide +kernel
theorem dX7_sumOfSquares_32 : decode cX7_sumOfSquares 32 = .ok (.iload_n 3, 1) := by decide +kernel
theorem dX7_sumOfSquares_33 : decode cX7_sumOfSquares 33 = .ok (.invokevirtual 68, 3) := by decide +kernel
theorem dX7_sumOfSquares_36 : decode cX7_sumOfSquares 36 = .ok (.aload_n 0, 1) := by decide +kernel
theorem dX7_sumOfSquares_37 : decode cX7_sumOfSquares 37 = .ok (.iload 4, 2) := by decide +kernel
theorem dX7_sumOfSquares_39 : decode cX7_sumOfSquares 39 = .ok (.invokevirtual 68, 3) := by decide +kernel
theorem dX7_sumOfSquares_42 : decode cX7_sumOfSquares 42 = .ok (.isub, 1) := by decide +kernel
theorem dX7_sumOfSquares_43 : decode cX7_sumOfSquares 43 = .ok (.i2l, 1) := by decide +kernel
theorem dX7_sumOfSquares_44 : decode cX7_sumOfSquares 44 = .ok (.lstore 5, 2) := by decide +kernel
theorem dX7_sumOfSquares_46 : decode cX7_sumOfSquares 46 = .ok (.lload_n 1, 1) := by decide +kernel
theorem dX7_sumOfSquares_47 : decode cX7_sumOfSquares 47 = .ok (.lload 5, 2) := by decide +kernel
theorem dX7_sumOfSquares_49 : decode cX7_sumOfSquares 49 = .ok (.lload 5, 2) := by decide +kernel
theorem dX7_sumOfSquares_51 : decode cX7_sumOfSquares 51 = .ok (.lmul, 1) := by decide +kernel
theorem dX7_sumOfSquares_52 : decode cX7_sumOfSquares 52 = .ok (.ladd, 1) := by decide +kernel
theorem dX7_sumOfSquares_53 : decode cX7_sumOfSquares 53 = .ok (.lstore_n 1, 1) := by decide +kernel
theorem dX7_sumOfSquares_54 : decode cX7_sumOfSquares 54 = .ok (.iinc 4 1, 3) := by decide +kernel
theorem dX7_sumOfSquares_57 : decode cX7_sumOfSquares 57 = .ok (.goto (-42), 3) := by decide +kernel
theorem dX7_sumOfSquares_60 : decode cX7_sumOfSquares 60 = .ok (.iinc 3 1, 3) := by decide +kernel
theorem dX7_sumOfSquares_63 : decode cX7_sumOfSquares 63 = .ok (.goto (-59), 3) := by decide +kernel
theorem dX7_sumOfSquares_66 : decode cX7_sumOfSquares 66 = .ok (.lload_n 1, 1) := by decide +kernel
theorem dX7_sumOfSquares_67 : decode cX7_sumOfSquares 67 = .ok (.lreturn, 1) := by decide +kernel
theorem dX7_growGround_0 : decode cX7_growGround 0 = .ok (.aload_n 0, 1) := by decide +kernel
theorem dX7_growGround_1 : decode cX7_growGround 1 = .ok (.invokevirtual 71, 3) := by decide +kernel
theorem dX7_growGround_4 : decode cX7_growGround 4 = .ok (.iconst 1, 1) := by decide +kernel
theorem dX7_growGround_5 : decode cX7_growGround 5 = .ok (.istore 4, 2) := by decide +kernel
theorem dX7_growGround_7 : decode cX7_growGround 7 = .ok (.iconst 1, 1) := by decide +kernel
theorem dX7_growGround_8 : decode cX7_growGround 8 = .ok (.istore 5, 2) := by decide +kernel
theorem dX7_growGround_10 : decode cX7_growGround 10 = .ok (.iload 4, 2) := by decide +kernel
theorem dX7_growGround_12 : decode cX7_growGround 12 = .ok (.ifCond .eq 29, 3) := by decide +kernel
theorem dX7_growGround_15 : decode cX7_growGround 15 = .ok (.iload 5, 2) := by decide +kernel
theorem dX7_growGround_17 : decode cX7_growGround 17 = .ok (.aload_n 0, 1) := by decide +kernel
theorem dX7_growGround_18 : decode cX7_growGround 18 = .ok (.getfield 40, 3) := by decide +kernel
theorem dX7_growGround_21 : decode cX7_growGround 21 = .ok (.if_icmp .gt 20, 3) := by decide +kernel
theorem dX7_growGround_24 : decode cX7_growGround 24 = .ok (.aload_n 0, 1) := by decide +kernel
theorem dX7_growGround_25 : decode cX7_growGround 25 = .ok (.iload 5, 2) := by decide +kernel
theorem dX7_growGround_27 : decode cX7_growGround 27 = .ok (.iload_n 1, 1) := by decide +kernel
theorem dX7_growGround_28 : decode cX7_growGround 28 = .ok (.iload_n 2, 1) := by decide +kernel
theorem dX7_growGround_29 : decode cX7_growGround 29 = .ok (.iload_n 3, 1) := by decide +kernel
theorem dX7_growGround_30 : decode cX7_growGround 30 = .ok (.invokevirtual 74, 3) := by decide +kernel
theorem dX7_growGround_33 : decode cX7_growGround 33 = .ok (.istore 4, 2) := by decide +kernel
theorem dX7_growGround_35 : decode cX7_growGround 35 = .ok (.iinc 5 1, 3) := by decide +kernel
theorem dX7_growGround_38 : decode cX7_growGround 38 = .ok (.goto (-28), 3) := by decide +kernel
theorem dX7_growGround_41 : decode cX7_growGround 41 = .ok (.aload_n 0, 1) := by decide +kernel
theorem dX7_growGround_42 : decode cX7_growGround 42 = .ok (.iconst 1, 1) := by decide +kernel
theorem dX7_growGround_43 : decode cX7_growGround 43 = .ok (.invokevirtual 77, 3) := by decide +kernel
theorem dX7_growGround_46 : decode cX7_growGround 46 = .ok (.ireturn, 1) := by decide +kernel
theorem dX7_startFromSeeds_0 : decode cX7_startFromSeeds 0 = .ok (.iconst 0, 1) := by decide +kernel
theorem dX7_startFromSeeds_1 : decode cX7_startFromSeeds 1 = .ok (.istore_n 1, 1) := by decide +kernel
theorem dX7_startFromSeeds_2 : decode cX7_startFromSeeds 2 = .ok (.iload_n 1, 1) := by decide +kernel
theorem dX7_startFromSeeds_3 : decode cX7_startFromSeeds 3 = .ok (.aload_n 0, 1) := by decide +kernel
theorem dX7_startFromSeeds_4 : decode cX7_startFromSeeds 4 = .ok (.getfield 40, 3) := by decide +kernel
theorem dX7_startFromSeeds_7 : decode cX7_startFromSeeds 7 = .ok (.if_icmp .ge 26, 3) := by decide +kernel
theorem dX7_startFromSeeds_10 : decode cX7_startFromSeeds 10 = .ok (.aload_n 0, 1) := by decide +kernel
theorem dX7_startFromSeeds_11 : decode cX7_startFromSeeds 11 = .ok (.getfield 27, 3) := by decide +kernel
theorem dX7_startFromSeeds_14 : decode cX7_startFromSeeds 14 = .ok (.iload_n 1, 1) := by decide +kernel
theorem dX7_startFromSeeds_15 : decode cX7_startFromSeeds 15 = .ok (.iaload, 1) := by decide +kernel
theorem dX7_startFromSeeds_16 : decode cX7_startFromSeeds 16 = .ok (.iconst 1, 1) := by decide +kernel
theorem dX7_startFromSeeds_17 : decode cX7_startFromSeeds 17 = .ok (.if_icmp .eq 10, 3) := by decide +kernel
theorem dX7_startFromSeeds_20 : decode cX7_startFromSeeds 20 = .ok (.aload_n 0, 1) := by decide +kernel
theorem dX7_startFromSeeds_21 : decode cX7_startFromSeeds 21 = .ok (.iload_n 1, 1) := by decide +kernel
theorem dX7_startFromSeeds_22 : decode cX7_startFromSeeds 22 = .ok (.iconst 2, 1) := by decide +kernel
theorem dX7_startFromSeeds_23 : decode cX7_startFromSeeds 23 = .ok (.iconst (-1), 1) := by decide +kernel
theorem dX7_startFromSeeds_24 : decode cX7_startFromSeeds 24 = .ok (.invokevirtual 52, 3) := by decide +kernel
theorem dX7_startFromSeeds_27 : decode cX7_startFromSeeds 27 = .ok (.iinc 1 1, 3) := by decide +kernel
theorem dX7_startFromSeeds_30 : decode cX7_startFromSeeds 30 = .ok (.goto (-28), 3) := by decide +kernel
theorem dX7_startFromSeeds_33 : decode cX7_startFromSeeds 33 = .ok (.iconst 0, 1) := by decide +kernel
theorem dX7_startFromSeeds_34 : decode cX7_startFromSeeds 34 = .ok (.istore_n 1, 1) := by decide +kernel
theorem dX7_startFromSeeds_35 : decode cX7_startFromSeeds 35 = .ok (.iload_n 1, 1) := by decide +kernel
theorem dX7_startFromSeeds_36 : decode cX7_startFromSeeds 36 = .ok (.bipush 16, 2) := by decide +kernel
theorem dX7_startFromSeeds_38 : decode cX7_startFromSeeds 38 = .ok (.if_icmp .ge 27, 3) := by decide +kernel
theorem dX7_startFromSeeds_41 : decode cX7_startFromSeeds 41 = .ok (.aload_n 0, 1) := by decide +kernel
theorem dX7_startFromSeeds_42 : decode cX7_startFromSeeds 42 = .ok (.iload_n 1, 1) := by decide +kernel
theorem dX7_startFromSeeds_43 : decode cX7_startFromSeeds 43 = .ok (.invokevirtual 80, 3) := by decide +kernel
theorem dX7_startFromSeeds_46 : decode cX7_startFromSeeds 46 = .ok (.istore_n 2, 1) := by decide +kernel
theorem dX7_startFromSeeds_47 : decode cX7_startFromSeeds 47 = .ok (.iload_n 2, 1) := by decide +kernel
theorem dX7_startFromSeeds_48 : decode cX7_startFromSeeds 48 = .ok (.iconst (-1), 1) := by decide +kernel
theorem dX7_startFromSeeds_49 : decode cX7_startFromSeeds 49 = .ok (.if_icmp .eq 10, 3) := by decide +kernel
theorem dX7_startFromSeeds_52 : decode cX7_startFromSeeds 52 = .ok (.aload_n 0, 1) := by decide +kernel
theorem dX7_startFromSeeds_53 : decode cX7_startFromSeeds 53 = .ok (.iload_n 2, 1) := by decide +kernel
theorem dX7_startFromSeeds_54 : decode cX7_startFromSeeds 54 = .ok (.iconst 1, 1) := by decide +kernel
theorem dX7_startFromSeeds_55 : decode cX7_startFromSeeds 55 = .ok (.iconst 0, 1) := by decide +kernel
theorem dX7_startFromSeeds_56 : decode cX7_startFromSeeds 56 = .ok (.invokevirtual 52, 3) := by decide +kernel
theorem dX7_startFromSeeds_59 : decode cX7_startFromSeeds 59 = .ok (.iinc 1 1, 3) := by decide +kernel
theorem dX7_startFromSeeds_62 : decode cX7_startFromSeeds 62 = .ok (.goto (-27), 3) := by decide +kernel
theorem dX7_startFromSeeds_65 : decode cX7_startFromSeeds 65 = .ok (.return_, 1) := by decide +kernel
theorem dX7_lowestOf_0 : decode cX7_lowestOf 0 = .ok (.iconst (-1), 1) := by decide +kernel
theorem dX7_lowestOf_1 : decode cX7_lowestOf 1 = .ok (.istore_n 2, 1) := by decide +kernel
theorem dX7_lowestOf_2 : decode cX7_lowestOf 2 = .ok (.iconst 0, 1) := by decide +kernel
theorem dX7_lowestOf_3 : decode cX7_lowestOf 3 = .ok (.istore_n 3, 1) := by decide +kernel
theorem dX7_lowestOf_4 : decode cX7_lowestOf 4 = .ok (.iload_n 3, 1) := by decide +kernel
theorem dX7_lowestOf_5 : decode cX7_lowestOf 5 = .ok (.aload_n 0, 1) := by decide +kernel
theorem dX7_lowestOf_6 : decode cX7_lowestOf 6 = .ok (.getfield 40, 3) := by decide +kernel
theorem dX7_lowestOf_9 : decode cX7_lowestOf 9 = .ok (.if_icmp .ge 58, 3) := by decide +kernel
theorem dX7_lowestOf_12 : decode cX7_lowestOf 12 = .ok (.aload_n 0, 1) := by decide +kernel
theorem dX7_lowestOf_13 : decode cX7_lowestOf 13 = .ok (.getfield 27, 3) := by decide +kernel
theorem dX7_lowestOf_16 : decode cX7_lowestOf 16 = .ok (.iload_n 3, 1) := by decide +kernel
theorem dX7_lowestOf_17 : decode cX7_lowestOf 17 = .ok (.iaload, 1) := by decide +kernel
theorem dX7_lowestOf_18 : decode cX7_lowestOf 18 = .ok (.iconst 2, 1) := by decide +kernel
theorem dX7_lowestOf_19 : decode cX7_lowestOf 19 = .ok (.if_icmp .eq 42, 3) := by decide +kernel
theorem dX7_lowestOf_22 : decode cX7_lowestOf 22 = .ok (.aload_n 0, 1) := by decide +kernel
theorem dX7_lowestOf_23 : decode cX7_lowestOf 23 = .ok (.getfield 11, 3) := by decide +kernel
theorem dX7_lowestOf_26 : decode cX7_lowestOf 26 = .ok (.iload_n 3, 1) := by decide +kernel
theorem dX7_lowestOf_27 : decode cX7_lowestOf 27 = .ok (.iaload, 1) := by decide +kernel
theorem dX7_lowestOf_28 : decode cX7_lowestOf 28 = .ok (.aload_n 0, 1) := by decide +kernel
theorem dX7_lowestOf_29 : decode cX7_lowestOf 29 = .ok (.getfield 15, 3) := by decide +kernel
theorem dX7_lowestOf_32 : decode cX7_lowestOf 32 = .ok (.iload_n 3, 1) := by decide +kernel
theorem dX7_lowestOf_33 : decode cX7_lowestOf 33 = .ok (.iaload, 1) := by decide +kernel
theorem dX7_lowestOf_34 : decode cX7_lowestOf 34 = .ok (.invokestatic 48, 3) := by decide +kernel
theorem dX7_lowestOf_37 : decode cX7_lowestOf 37 = .ok (.iload_n 1, 1) := by decide +kernel
theorem dX7_lowestOf_38 : decode cX7_lowestOf 38 = .ok (.if_icmp .ne 23, 3) := by decide +kernel
theorem dX7_lowestOf_41 : decode cX7_lowestOf 41 = .ok (.iload_n 2, 1) := by decide +kernel
theorem dX7_lowestOf_42 : decode cX7_lowestOf 42 = .ok (.iconst (-1), 1) := by decide +kernel
theorem dX7_lowestOf_43 : decode cX7_lowestOf 43 = .ok (.if_icmp .eq 16, 3) := by decide +kernel
theorem dX7_lowestOf_46 : decode cX7_lowestOf 46 = .ok (.aload_n 0, 1) := by decide +kernel
theorem dX7_lowestOf_47 : decode cX7_lowestOf 47 = .ok (.iload_n 3, 1) := by decide +kernel
theorem dX7_lowestOf_48 : decode cX7_lowestOf 48 = .ok (.invokevirtual 68, 3) := by decide +kernel
theorem dX7_lowestOf_51 : decode cX7_lowestOf 51 = .ok (.aload_n 0, 1) := by decide +kernel
theorem dX7_lowestOf_52 : decode cX7_lowestOf 52 = .ok (.iload_n 2, 1) := by decide +kernel
theorem dX7_lowestOf_53 : decode cX7_lowestOf 53 = .ok (.invokevirtual 68, 3) := by decide +kernel
theorem dX7_lowestOf_56 : decode cX7_lowestOf 56 = .ok (.if_icmp .ge 5, 3) := by decide +kernel
theorem dX7_lowestOf_59 : decode cX7_lowestOf 59 = .ok (.iload_n 3, 1) := by decide +kernel
theorem dX7_lowestOf_60 : decode cX7_lowestOf 60 = .ok (.istore_n 2, 1) := by decide +kernel
theorem dX7_lowestOf_61 : decode cX7_lowestOf 61 = .ok (.iinc 3 1, 3) := by decide +kernel
theorem dX7_lowestOf_64 : decode cX7_lowestOf 64 = .ok (.goto (-60), 3) := by decide +kernel
theorem dX7_lowestOf_67 : decode cX7_lowestOf 67 = .ok (.iload_n 2, 1) := by decide +kernel
theorem dX7_lowestOf_68 : decode cX7_lowestOf 68 = .ok (.ireturn, 1) := by decide +kernel
theorem dX7_spread_0 : decode cX7_spread 0 = .ok (.iconst 0, 1) := by decide +kernel
theorem dX7_spread_1 : decode cX7_spread 1 = .ok (.istore 5, 2) := by decide +kernel
theorem dX7_spread_3 : decode cX7_spread 3 = .ok (.iconst 0, 1) := by decide +kernel
theorem dX7_spread_4 : decode cX7_spread 4 = .ok (.istore 6, 2) := by decide +kernel
theorem dX7_spread_6 : decode cX7_spread 6 = .ok (.iload 6, 2) := by decide +kernel
theorem dX7_spread_8 : decode cX7_spread 8 = .ok (.aload_n 0, 1) := by decide +kernel
theorem dX7_spread_9 : decode cX7_spread 9 = .ok (.getfield 40, 3) := by decide +kernel
theorem dX7_spread_12 : decode cX7_spread 12 = .ok (.if_icmp .ge 58, 3) := by decide +kernel
theorem dX7_spread_15 : decode cX7_spread 15 = .ok (.aload_n 0, 1) := by decide +kernel
theorem dX7_spread_16 : decode cX7_spread 16 = .ok (.getfield 24, 3) := by decide +kernel
theorem dX7_spread_19 : decode cX7_spread 19 = .ok (.iload 6, 2) := by decide +kernel
theorem dX7_spread_21 : decode cX7_spread 21 = .ok (.iaload, 1) := by decide +kernel
theorem dX7_spread_22 : decode cX7_spread 22 = .ok (.iconst 1, 1) := by decide +kernel
theorem dX7_spread_23 : decode cX7_spread 23 = .ok (.if_icmp .eq 41, 3) := by decide +kernel
theorem dX7_spread_26 : decode cX7_spread 26 = .ok (.aload_n 0, 1) := by decide +kernel
theorem dX7_spread_27 : decode cX7_spread 27 = .ok (.getfield 27, 3) := by decide +kernel
theorem dX7_spread_30 : decode cX7_spread 30 = .ok (.iload 6, 2) := by decide +kernel
theorem dX7_spread_32 : decode cX7_spread 32 = .ok (.iaload, 1) := by decide +kernel
theorem dX7_spread_33 : decode cX7_spread 33 = .ok (.iconst 2, 1) := by decide +kernel
theorem dX7_spread_34 : decode cX7_spread 34 = .ok (.if_icmp .eq 30, 3) := by decide +kernel
theorem dX7_spread_37 : decode cX7_spread 37 = .ok (.aload_n 0, 1) := by decide +kernel
theorem dX7_spread_38 : decode cX7_spread 38 = .ok (.iload 6, 2) := by decide +kernel
theorem dX7_spread_40 : decode cX7_spread 40 = .ok (.iload_n 1, 1) := by decide +kernel
theorem dX7_spread_41 : decode cX7_spread 41 = .ok (.iconst 1, 1) := by decide +kernel
theorem dX7_spread_42 : decode cX7_spread 42 = .ok (.isub, 1) := by decide +kernel
theorem dX7_spread_43 : decode cX7_spread 43 = .ok (.iload_n 2, 1) := by decide +kernel
theorem dX7_spread_44 : decode cX7_spread 44 = .ok (.iload_n 3, 1) := by decide +kernel
theorem dX7_spread_45 : decode cX7_spread 45 = .ok (.iload 4, 2) := by decide +kernel
theorem dX7_spread_47 : decode cX7_spread 47 = .ok (.invokevirtual 83, 3) := by decide +kernel
theorem dX7_spread_50 : decode cX7_spread 50 = .ok (.ifCond .eq 14, 3) := by decide +kernel
theorem dX7_spread_53 : decode cX7_spread 53 = .ok (.aload_n 0, 1) := by decide +kernel
theorem dX7_spread_54 : decode cX7_spread 54 = .ok (.iload 6, 2) := by decide +kernel
theorem dX7_spread_56 : decode cX7_spread 56 = .ok (.iconst 1, 1) := by decide +kernel
theorem dX7_spread_57 : decode cX7_spread 57 = .ok (.iload_n 1, 1) := by decide +kernel
theorem dX7_spread_58 : decode cX7_spread 58 = .ok (.invokevirtual 52, 3) := by decide +kernel
theorem dX7_spread_61 : decode cX7_spread 61 = .ok (.iconst 1, 1) := by decide +kernel
theorem dX7_spread_62 : decode cX7_spread 62 = .ok (.istore 5, 2) := by decide +kernel
theorem dX7_spread_64 : decode cX7_spread 64 = .ok (.iinc 6 1, 3) := by decide +kernel
theorem dX7_spread_67 : decode cX7_spread 67 = .ok (.goto (-61), 3) := by decide +kernel
theorem dX7_spread_70 : decode cX7_spread 70 = .ok (.iload 5, 2) := by decide +kernel
theorem dX7_spread_72 : decode cX7_spread 72 = .ok (.ireturn, 1) := by decide +kernel
theorem dX7_isReached_0 : decode cX7_isReached 0 = .ok (.iconst 0, 1) := by decide +kernel
theorem dX7_isReached_1 : decode cX7_isReached 1 = .ok (.istore 6, 2) := by decide +kernel
theorem dX7_isReached_3 : decode cX7_isReached 3 = .ok (.iload 6, 2) := by decide +kernel
theorem dX7_isReached_5 : decode cX7_isReached 5 = .ok (.aload_n 0, 1) := by decide +kernel
theorem dX7_isReached_6 : decode cX7_isReached 6 = .ok (.getfield 40, 3) := by decide +kernel
theorem dX7_isReached_9 : decode cX7_isReached 9 = .ok (.if_icmp .ge 47, 3) := by decide +kernel
theorem dX7_isReached_12 : decode cX7_isReached 12 = .ok (.aload_n 0, 1) := by decide +kernel
theorem dX7_isReached_13 : decode cX7_isReached 13 = .ok (.getfield 30, 3) := by decide +kernel
theorem dX7_isReached_16 : decode cX7_isReached 16 = .ok (.iload 6, 2) := by decide +kernel
theorem dX7_isReached_18 : decode cX7_isReached 18 = .ok (.iaload, 1) := by decide +kernel
theorem dX7_isReached_19 : decode cX7_isReached 19 = .ok (.iload_n 2, 1) := by decide +kernel
theorem dX7_isReached_20 : decode cX7_isReached 20 = .ok (.if_icmp .ne 30, 3) := by decide +kernel
theorem dX7_isReached_23 : decode cX7_isReached 23 = .ok (.aload_n 0, 1) := by decide +kernel
theorem dX7_isReached_24 : decode cX7_isReached 24 = .ok (.iload 6, 2) := by decide +kernel
theorem dX7_isReached_26 : decode cX7_isReached 26 = .ok (.iload_n 1, 1) := by decide +kernel
theorem dX7_isReached_27 : decode cX7_isReached 27 = .ok (.iload 5, 2) := by decide +kernel
theorem dX7_isReached_29 : decode cX7_isReached 29 = .ok (.invokevirtual 87, 3) := by decide +kernel
theorem dX7_isReached_32 : decode cX7_isReached 32 = .ok (.ifCond .eq 18, 3) := by decide +kernel
theorem dX7_isReached_35 : decode cX7_isReached 35 = .ok (.aload_n 0, 1) := by decide +kernel
theorem dX7_isReached_36 : decode cX7_isReached 36 = .ok (.iload 6, 2) := by decide +kernel
theorem dX7_isReached_38 : decode cX7_isReached 38 = .ok (.iload_n 1, 1) := by decide +kernel
theorem dX7_isReached_39 : decode cX7_isReached 39 = .ok (.iload_n 3, 1) := by decide +kernel
theorem dX7_isReached_40 : decode cX7_isReached 40 = .ok (.iload 4, 2) := by decide +kernel
theorem dX7_isReached_42 : decode cX7_isReached 42 = .ok (.invokevirtual 91, 3) := by decide +kernel
theorem dX7_isReached_45 : decode cX7_isReached 45 = .ok (.ifCond .eq 5, 3) := by decide +kernel
theorem dX7_isReached_48 : decode cX7_isReached 48 = .ok (.iconst 1, 1) := by decide +kernel
theorem dX7_isReached_49 : decode cX7_isReached 49 = .ok (.ireturn, 1) := by decide +kernel
theorem dX7_isReached_50 : decode cX7_isReached 50 = .ok (.iinc 6 1, 3) := by decide +kernel
theorem dX7_isReached_53 : decode cX7_isReached 53 = .ok (.goto (-50), 3) := by decide +kernel
theorem dX7_isReached_56 : decode cX7_isReached 56 = .ok (.iconst 0, 1) := by decide +kernel
theorem dX7_isReached_57 : decode cX7_isReached 57 = .ok (.ireturn, 1) := by decide +kernel
theorem dX7_squareOfWay_0 : decode cX7_squareOfWay 0 = .ok (.aload_n 0, 1) := by decide +kernel
theorem dX7_squareOfWay_1 : decode cX7_squareOfWay 1 = .ok (.getfield 11, 3) := by decide +kernel
theorem dX7_squareOfWay_4 : decode cX7_squareOfWay 4 = .ok (.iload_n 1, 1) := by decide +kernel
theorem dX7_squareOfWay_5 : decode cX7_squareOfWay 5 = .ok (.iaload, 1) := by decide +kernel
theorem dX7_squareOfWay_6 : decode cX7_squareOfWay 6 = .ok (.aload_n 0, 1) := by decide +kernel
theorem dX7_squareOfWay_7 : decode cX7_squareOfWay 7 = .ok (.getfield 11, 3) := by decide +kernel
theorem dX7_squareOfWay_10 : decode cX7_squareOfWay 10 = .ok (.iload_n 2, 1) := by decide +kernel
theorem dX7_squareOfWay_11 : decode cX7_squareOfWay 11 = .ok (.iaload, 1) := by decide +kernel
theorem dX7_squareOfWay_12 : decode cX7_squareOfWay 12 = .ok (.isub, 1) := by decide +kernel
theorem dX7_squareOfWay_13 : decode cX7_squareOfWay 13 = .ok (.istore_n 3, 1) := by decide +kernel
theorem dX7_squareOfWay_14 : decode cX7_squareOfWay 14 = .ok (.aload_n 0, 1) := by decide +kernel
theorem dX7_squareOfWay_15 : decode cX7_squareOfWay 15 = .ok (.getfield 15, 3) := by decide +kernel
theorem dX7_squareOfWay_18 : decode cX7_squareOfWay 18 = .ok (.iload_n 1, 1) := by decide +kernel
theorem dX7_squareOfWay_19 : decode cX7_squareOfWay 19 = .ok (.iaload, 1) := by decide +kernel
theorem dX7_squareOfWay_20 : decode cX7_squareOfWay 20 = .ok (.aload_n 0, 1) := by decide +kernel
theorem dX7_squareOfWay_21 : decode cX7_squareOfWay 21 = .ok (.getfield 15, 3) := by decide +kernel
theorem dX7_squareOfWay_24 : decode cX7_squareOfWay 24 = .ok (.iload_n 2, 1) := by decide +kernel
theorem dX7_squareOfWay_25 : decode cX7_squareOfWay 25 = .ok (.iaload, 1) := by decide +kernel
theorem dX7_squareOfWay_26 : decode cX7_squareOfWay 26 = .ok (.isub, 1) := by decide +kernel
theorem dX7_squareOfWay_27 : decode cX7_squareOfWay 27 = .ok (.istore 4, 2) := by decide +kernel
theorem dX7_squareOfWay_29 : decode cX7_squareOfWay 29 = .ok (.iload_n 3, 1) := by decide +kernel
theorem dX7_squareOfWay_30 : decode cX7_squareOfWay 30 = .ok (.iload_n 3, 1) := by decide +kernel
theorem dX7_squareOfWay_31 : decode cX7_squareOfWay 31 = .ok (.imul, 1) := by decide +kernel
theorem dX7_squareOfWay_32 : decode cX7_squareOfWay 32 = .ok (.iload 4, 2) := by decide +kernel
theorem dX7_squareOfWay_34 : decode cX7_squareOfWay 34 = .ok (.iload 4, 2) := by decide +kernel
theorem dX7_squareOfWay_36 : decode cX7_squareOfWay 36 = .ok (.imul, 1) := by decide +kernel
theorem dX7_squareOfWay_37 : decode cX7_squareOfWay 37 = .ok (.iadd, 1) := by decide +kernel
theorem dX7_squareOfWay_38 : decode cX7_squareOfWay 38 = .ok (.ireturn, 1) := by decide +kernel
theorem dX7_isNear_0 : decode cX7_isNear 0 = .ok (.aload_n 0, 1) := by decide +kernel
theorem dX7_isNear_1 : decode cX7_isNear 1 = .ok (.iload_n 1, 1) := by decide +kernel
theorem dX7_isNear_2 : decode cX7_isNear 2 = .ok (.iload_n 2, 1) := by decide +kernel
theorem dX7_isNear_3 : decode cX7_isNear 3 = .ok (.invokevirtual 94, 3) := by decide +kernel
theorem dX7_isNear_6 : decode cX7_isNear 6 = .ok (.iload_n 3, 1) := by decide +kernel
theorem dX7_isNear_7 : decode cX7_isNear 7 = .ok (.iload_n 3, 1) := by decide +kernel
theorem dX7_isNear_8 : decode cX7_isNear 8 = .ok (.imul, 1) := by decide +kernel
theorem dX7_isNear_9 : decode cX7_isNear 9 = .ok (.if_icmp .gt 7, 3) := by decide +kernel
theorem dX7_isNear_12 : decode cX7_isNear 12 = .ok (.iconst 1, 1) := by decide +kernel
theorem dX7_isNear_13 : decode cX7_isNear 13 = .ok (.goto 4, 3) := by decide +kernel
theorem dX7_isNear_16 : decode cX7_isNear 16 = .ok (.iconst 0, 1) := by decide +kernel
theorem dX7_isNear_17 : decode cX7_isNear 17 = .ok (.ireturn, 1) := by decide +kernel
theorem dX7_isEven_0 : decode cX7_isEven 0 = .ok (.iload 4, 2) := by decide +kernel
theorem dX7_isEven_2 : decode cX7_isEven 2 = .ok (.i2l, 1) := by decide +kernel
theorem dX7_isEven_3 : decode cX7_isEven 3 = .ok (.aload_n 0, 1) := by decide +kernel
theorem dX7_isEven_4 : decode cX7_isEven 4 = .ok (.iload_n 1, 1) := by decide +kernel
theorem dX7_isEven_5 : decode cX7_isEven 5 = .ok (.invokevirtual 68, 3) := by decide +kernel
theorem dX7_isEven_8 : decode cX7_isEven 8 = .ok (.aload_n 0, 1) := by decide +kernel
theorem dX7_isEven_9 : decode cX7_isEven 9 = .ok (.iload_n 2, 1) := by decide +kernel
theorem dX7_isEven_10 : decode cX7_isEven 10 = .ok (.invokevirtual 68, 3) := by decide +kernel
theorem dX7_isEven_13 : decode cX7_isEven 13 = .ok (.isub, 1) := by decide +kernel
theorem dX7_isEven_14 : decode cX7_isEven 14 = .ok (.i2l, 1) := by decide +kernel
theorem dX7_isEven_15 : decode cX7_isEven 15 = .ok (.lmul, 1) := by decide +kernel
theorem dX7_isEven_16 : decode cX7_isEven 16 = .ok (.lstore 5, 2) := by decide +kernel
theorem dX7_isEven_18 : decode cX7_isEven 18 = .ok (.lload 5, 2) := by decide +kernel
theorem dX7_isEven_20 : decode cX7_isEven 20 = .ok (.lload 5, 2) := by decide +kernel
theorem dX7_isEven_22 : decode cX7_isEven 22 = .ok (.lmul, 1) := by decide +kernel
theorem dX7_isEven_23 : decode cX7_isEven 23 = .ok (.iload_n 3, 1) := by decide +kernel
theorem dX7_isEven_24 : decode cX7_isEven 24 = .ok (.i2l, 1) := by decide +kernel
theorem dX7_isEven_25 : decode cX7_isEven 25 = .ok (.iload_n 3, 1) := by decide +kernel
theorem dX7_isEven_26 : decode cX7_isEven 26 = .ok (.i2l, 1) := by decide +kernel
theorem dX7_isEven_27 : decode cX7_isEven 27 = .ok (.lmul, 1) := by decide +kernel
theorem dX7_isEven_28 : decode cX7_isEven 28 = .ok (.aload_n 0, 1) := by decide +kernel
theorem dX7_isEven_29 : decode cX7_isEven 29 = .ok (.iload_n 1, 1) := by decide +kernel
theorem dX7_isEven_30 : decode cX7_isEven 30 = .ok (.iload_n 2, 1) := by decide +kernel
theorem dX7_isEven_31 : decode cX7_isEven 31 = .ok (.invokevirtual 94, 3) := by decide +kernel
theorem dX7_isEven_34 : decode cX7_isEven 34 = .ok (.i2l, 1) := by decide +kernel
theorem dX7_isEven_35 : decode cX7_isEven 35 = .ok (.lmul, 1) := by decide +kernel
theorem dX7_isEven_36 : decode cX7_isEven 36 = .ok (.lcmp, 1) := by decide +kernel
theorem dX7_isEven_37 : decode cX7_isEven 37 = .ok (.ifCond .gt 7, 3) := by decide +kernel
theorem dX7_isEven_40 : decode cX7_isEven 40 = .ok (.iconst 1, 1) := by decide +kernel
theorem dX7_isEven_41 : decode cX7_isEven 41 = .ok (.goto 4, 3) := by decide +kernel
theorem dX7_isEven_44 : decode cX7_isEven 44 = .ok (.iconst 0, 1) := by decide +kernel
theorem dX7_isEven_45 : decode cX7_isEven 45 = .ok (.ireturn, 1) := by decide +kernel
theorem dX8_init_0 : decode cX8_init 0 = .ok (.aload_n 0, 1) := by decide +kernel
theorem dX8_init_1 : decode cX8_init 1 = .ok (.invokespecial 1, 3) := by decide +kernel
theorem dX8_init_4 : decode cX8_init 4 = .ok (.aload_n 0, 1) := by decide +kernel
theorem dX8_init_5 : decode cX8_init 5 = .ok (.iconst 4, 1) := by decide +kernel
theorem dX8_init_6 : decode cX8_init 6 = .ok (.anewarray 9, 3) := by decide +kernel
theorem dX8_init_9 : decode cX8_init 9 = .ok (.putfield 11, 3) := by decide +kernel
theorem dX8_init_12 : decode cX8_init 12 = .ok (.aload_n 0, 1) := by decide +kernel
theorem dX8_init_13 : decode cX8_init 13 = .ok (.iconst 2, 1) := by decide +kernel
theorem dX8_init_14 : decode cX8_init 14 = .ok (.anewarray 15, 3) := by decide +kernel
theorem dX8_init_17 : decode cX8_init 17 = .ok (.putfield 17, 3) := by decide +kernel
theorem dX8_init_20 : decode cX8_init 20 = .ok (.aload_n 0, 1) := by decide +kernel
theorem dX8_init_21 : decode cX8_init 21 = .ok (.new 21, 3) := by decide +kernel
theorem dX8_init_24 : decode cX8_init 24 = .ok (.dup, 1) := by decide +kernel
theorem dX8_init_25 : decode cX8_init 25 = .ok (.invokespecial 23, 3) := by decide +kernel
theorem dX8_init_28 : decode cX8_init 28 = .ok (.putfield 24, 3) := by decide +kernel
theorem dX8_init_31 : decode cX8_init 31 = .ok (.aload_n 0, 1) := by decide +kernel
theorem dX8_init_32 : decode cX8_init 32 = .ok (.new 28, 3) := by decide +kernel
theorem dX8_init_35 : decode cX8_init 35 = .ok (.dup, 1) := by decide +kernel
theorem dX8_init_36 : decode cX8_init 36 = .ok (.invokespecial 30, 3) := by decide +kernel
theorem dX8_init_39 : decode cX8_init 39 = .ok (.putfield 31, 3) := by decide +kernel
theorem dX8_init_42 : decode cX8_init 42 = .ok (.aload_n 0, 1) := by decide +kernel
theorem dX8_init_43 : decode cX8_init 43 = .ok (.new 35, 3) := by decide +kernel
theorem dX8_init_46 : decode cX8_init 46 = .ok (.dup, 1) := by decide +kernel
theorem dX8_init_47 : decode cX8_init 47 = .ok (.invokespecial 37, 3) := by decide +kernel
theorem dX8_init_50 : decode cX8_init 50 = .ok (.putfield 38, 3) := by decide +kernel
theorem dX8_init_53 : decode cX8_init 53 = .ok (.aload_n 0, 1) := by decide +kernel
theorem dX8_init_54 : decode cX8_init 54 = .ok (.new 42, 3) := by decide +kernel
theorem dX8_init_57 : decode cX8_init 57 = .ok (.dup, 1) := by decide +kernel
theorem dX8_init_58 : decode cX8_init 58 = .ok (.invokespecial 44, 3) := by decide +kernel
theorem dX8_init_61 : decode cX8_init 61 = .ok (.putfield 45, 3) := by decide +kernel
theorem dX8_init_64 : decode cX8_init 64 = .ok (.aload_n 0, 1) := by decide +kernel
theorem dX8_init_65 : decode cX8_init 65 = .ok (.new 49, 3) := by decide +kernel
theorem dX8_init_68 : decode cX8_init 68 = .ok (.dup, 1) := by decide +kernel
theorem dX8_init_69 : decode cX8_init 69 = .ok (.invokespecial 51, 3) := by decide +kernel
theorem dX8_init_72 : decode cX8_init 72 = .ok (.putfield 52, 3) := by decide +kernel
theorem dX8_init_75 : decode cX8_init 75 = .ok (.aload_n 0, 1) := by decide +kernel
theorem dX8_init_76 : decode cX8_init 76 = .ok (.new 56, 3) := by decide +kernel
theorem dX8_init_79 : decode cX8_init 79 = .ok (.dup, 1) := by decide +kernel
theorem dX8_init_80 : decode cX8_init 80 = .ok (.invokespecial 58, 3) := by decide +kernel
theorem dX8_init_83 : decode cX8_init 83 = .ok (.putfield 59, 3) := by decide +kernel
theorem dX8_init_86 : decode cX8_init 86 = .ok (.aload_n 0, 1) := by decide +kernel
theorem dX8_init_87 : decode cX8_init 87 = .ok (.new 56, 3) := by decide +kernel
theorem dX8_init_90 : decode cX8_init 90 = .ok (.dup, 1) := by decide +kernel
theorem dX8_init_91 : decode cX8_init 91 = .ok (.invokespecial 58, 3) := by decide +kernel
theorem dX8_init_94 : decode cX8_init 94 = .ok (.putfield 63, 3) := by decide +kernel
theorem dX8_init_97 : decode cX8_init 97 = .ok (.iconst 0, 1) := by decide +kernel
theorem dX8_init_98 : decode cX8_init 98 = .ok (.istore_n 1, 1) := by decide +kernel
theorem dX8_init_99 : decode cX8_init 99 = .ok (.iload_n 1, 1) := by decide +kernel
theorem dX8_init_100 : decode cX8_init 100 = .ok (.iconst 4, 1) := by decide +kernel
theorem dX8_init_101 : decode cX8_init 101 = .ok (.if_icmp .ge 22, 3) := by decide +kernel
theorem dX8_init_104 : decode cX8_init 104 = .ok (.aload_n 0, 1) := by decide +kernel
theorem dX8_init_105 : decode cX8_init 105 = .ok (.getfield 11, 3) := by decide +kernel
theorem dX8_init_108 : decode cX8_init 108 = .ok (.iload_n 1, 1) := by decide +kernel
theorem dX8_init_109 : decode cX8_init 109 = .ok (.new 9, 3) := by decide +kernel
theorem dX8_init_112 : decode cX8_init 112 = .ok (.dup, 1) := by decide +kernel
theorem dX8_init_113 : decode cX8_init 113 = .ok (.invokespecial 66, 3) := by decide +kernel
theorem dX8_init_116 : decode cX8_init 116 = .ok (.aastore, 1) := by decide +kernel
theorem dX8_init_117 : decode cX8_init 117 = .ok (.iinc 1 1, 3) := by decide +kernel
theorem dX8_init_120 : decode cX8_init 120 = .ok (.goto (-21), 3) := by decide +kernel
theorem dX8_init_123 : decode cX8_init 123 = .ok (.iconst 0, 1) := by decide +kernel
theorem dX8_init_124 : decode cX8_init 124 = .ok (.istore_n 1, 1) := by decide +kernel
theorem dX8_init_125 : decode cX8_init 125 = .ok (.iload_n 1, 1) := by decide +kernel
theorem dX8_init_126 : decode cX8_init 126 = .ok (.iconst 2, 1) := by decide +kernel
theorem dX8_init_127 : decode cX8_init 127 = .ok (.if_icmp .ge 22, 3) := by decide +kernel
theorem dX8_init_130 : decode cX8_init 130 = .ok (.aload_n 0, 1) := by decide +kernel
theorem dX8_init_131 : decode cX8_init 131 = .ok (.getfield 17, 3) := by decide +kernel
theorem dX8_init_134 : decode cX8_init 134 = .ok (.iload_n 1, 1) := by decide +kernel
theorem dX8_init_135 : decode cX8_init 135 = .ok (.new 15, 3) := by decide +kernel
theorem dX8_init_138 : decode cX8_init 138 = .ok (.dup, 1) := by decide +kernel
theorem dX8_init_139 : decode cX8_init 139 = .ok (.invokespecial 67, 3) := by decide +kernel
theorem dX8_init_142 : decode cX8_init 142 = .ok (.aastore, 1) := by decide +kernel
theorem dX8_init_143 : decode cX8_init 143 = .ok (.iinc 1 1, 3) := by decide +kernel
theorem dX8_init_146 : decode cX8_init 146 = .ok (.goto (-21), 3) := by decide +kernel
theorem dX8_init_149 : decode cX8_init 149 = .ok (.return_, 1) := by decide +kernel
theorem dX8_sheet_0 : decode cX8_sheet 0 = .ok (.iload_n 1, 1) := by decide +kernel
theorem dX8_sheet_1 : decode cX8_sheet 1 = .ok (.invokestatic 68, 3) := by decide +kernel
theorem dX8_sheet_4 : decode cX8_sheet 4 = .ok (.ifCond .eq 16, 3) := by decide +kernel
theorem dX8_sheet_7 : decode cX8_sheet 7 = .ok (.iload_n 2, 1) := by decide +kernel
theorem dX8_sheet_8 : decode cX8_sheet 8 = .ok (.invokestatic 72, 3) := by decide +kernel
theorem dX8_sheet_11 : decode cX8_sheet 11 = .ok (.ifCond .eq 9, 3) := by decide +kernel
theorem dX8_sheet_14 : decode cX8_sheet 14 = .ok (.iload_n 3, 1) := by decide +kernel
theorem dX8_sheet_15 : decode cX8_sheet 15 = .ok (.bipush 40, 2) := by decide +kernel
theorem dX8_sheet_17 : decode cX8_sheet 17 = .ok (.if_icmp .le 5, 3) := by decide +kernel
theorem dX8_sheet_20 : decode cX8_sheet 20 = .ok (.iconst (-1), 1) := by decide +kernel
theorem dX8_sheet_21 : decode cX8_sheet 21 = .ok (.ireturn, 1) := by decide +kernel
theorem dX8_sheet_22 : decode cX8_sheet 22 = .ok (.iload_n 3, 1) := by decide +kernel
theorem dX8_sheet_23 : decode cX8_sheet 23 = .ok (.ifCond .ge 6, 3) := by decide +kernel
theorem dX8_sheet_26 : decode cX8_sheet 26 = .ok (.bipush (-14), 2) := by decide +kernel
theorem dX8_sheet_28 : decode cX8_sheet 28 = .ok (.ireturn, 1) := by decide +kernel
theorem dX8_sheet_29 : decode cX8_sheet 29 = .ok (.aload_n 0, 1) := by decide +kernel
theorem dX8_sheet_30 : decode cX8_sheet 30 = .ok (.getfield 11, 3) := by decide +kernel
theorem dX8_sheet_33 : decode cX8_sheet 33 = .ok (.iload_n 1, 1) := by decide +kernel
theorem dX8_sheet_34 : decode cX8_sheet 34 = .ok (.aaload, 1) := by decide +kernel
theorem dX8_sheet_35 : decode cX8_sheet 35 = .ok (.iload_n 2, 1) := by decide +kernel
theorem dX8_sheet_36 : decode cX8_sheet 36 = .ok (.iload_n 3, 1) := by decide +kernel
theorem dX8_sheet_37 : decode cX8_sheet 37 = .ok (.invokevirtual 75, 3) := by decide +kernel
theorem dX8_sheet_40 : decode cX8_sheet 40 = .ok (.iload_n 3, 1) := by decide +kernel
theorem dX8_sheet_41 : decode cX8_sheet 41 = .ok (.ireturn, 1) := by decide +kernel
theorem dX8_drop_0 : decode cX8_drop 0 = .ok (.iload_n 1, 1) := by decide +kernel
theorem dX8_drop_1 : decode cX8_drop 1 = .ok (.invokestatic 68, 3) := by decide +kernel
theorem dX8_drop_4 : decode cX8_drop 4 = .ok (.ifCond .ne 5, 3) := by decide +kernel
theorem dX8_drop_7 : decode cX8_drop 7 = .ok (.iconst (-1), 1) := by decide +kernel
theorem dX8_drop_8 : decode cX8_drop 8 = .ok (.ireturn, 1) := by decide +kernel
theorem dX8_drop_9 : decode cX8_drop 9 = .ok (.aload_n 0, 1) := by decide +kernel
theorem dX8_drop_10 : decode cX8_drop 10 = .ok (.getfield 11, 3) := by decide +kernel
theorem dX8_drop_13 : decode cX8_drop 13 = .ok (.iload_n 1, 1) := by decide +kernel
theorem dX8_drop_14 : decode cX8_drop 14 = .ok (.aaload, 1) := by decide +kernel
theorem dX8_drop_15 : decode cX8_drop 15 = .ok (.astore_n 2, 1) := by decide +kernel
theorem dX8_drop_16 : decode cX8_drop 16 = .ok (.aload_n 2, 1) := by decide +kernel
theorem dX8_drop_17 : decode cX8_drop 17 = .ok (.invokevirtual 79, 3) := by decide +kernel
theorem dX8_drop_20 : decode cX8_drop 20 = .ok (.ifCond .ne 6, 3) := by decide +kernel
theorem dX8_drop_23 : decode cX8_drop 23 = .ok (.bipush (-11), 2) := by decide +kernel
theorem dX8_drop_25 : decode cX8_drop 25 = .ok (.ireturn, 1) := by decide +kernel
theorem dX8_drop_26 : decode cX8_drop 26 = .ok (.aload_n 2, 1) := by decide +kernel
theorem dX8_drop_27 : decode cX8_drop 27 = .ok (.getfield 83, 3) := by decide +kernel
theorem dX8_drop_30 : decode cX8_drop 30 = .ok (.istore_n 3, 1) := by decide +kernel
theorem dX8_drop_31 : decode cX8_drop 31 = .ok (.aload_n 2, 1) := by decide +kernel
theorem dX8_drop_32 : decode cX8_drop 32 = .ok (.invokevirtual 87, 3) := by decide +kernel
theorem dX8_drop_35 : decode cX8_drop 35 = .ok (.iload_n 3, 1) := by decide +kernel
theorem dX8_drop_36 : decode cX8_drop 36 = .ok (.ireturn, 1) := by decide +kernel
theorem dX8_item_0 : decode cX8_item 0 = .ok (.iload_n 1, 1) := by decide +kernel
theorem dX8_item_1 : decode cX8_item 1 = .ok (.invokestatic 68, 3) := by decide +kernel
theorem dX8_item_4 : decode cX8_item 4 = .ok (.ifCond .eq 10, 3) := by decide +kernel
theorem dX8_item_7 : decode cX8_item 7 = .ok (.iload_n 2, 1) := by decide +kernel
theorem dX8_item_8 : decode cX8_item 8 = .ok (.invokestatic 72, 3) := by decide +kernel
theorem dX8_item_11 : decode cX8_item 11 = .ok (.ifCond .ne 5, 3) := by decide +kernel
theorem dX8_item_14 : decode cX8_item 14 = .ok (.iconst (-1), 1) := by decide +kernel
theorem dX8_item_15 : decode cX8_item 15 = .ok (.ireturn, 1) := by decide +kernel
theorem dX8_item_16 : decode cX8_item 16 = .ok (.aload_n 0, 1) := by decide +kernel
theorem dX8_item_17 : decode cX8_item 17 = .ok (.getfield 11, 3) := by decide +kernel
theorem dX8_item_20 : decode cX8_item 20 = .ok (.iload_n 1, 1) := by decide +kernel
theorem dX8_item_21 : decode cX8_item 21 = .ok (.aaload, 1) := by decide +kernel
theorem dX8_item_22 : decode cX8_item 22 = .ok (.astore 5, 2) := by decide +kernel
theorem dX8_item_24 : decode cX8_item 24 = .ok (.aload 5, 2) := by decide +kernel
theorem dX8_item_26 : decode cX8_item 26 = .ok (.invokevirtual 79, 3) := by decide +kernel
theorem dX8_item_29 : decode cX8_item 29 = .ok (.ifCond .ne 6, 3) := by decide +kernel
theorem dX8_item_32 : decode cX8_item 32 = .ok (.bipush (-11), 2) := by decide +kernel
theorem dX8_item_34 : decode cX8_item 34 = .ok (.ireturn, 1) := by decide +kernel
theorem dX8_item_35 : decode cX8_item 35 = .ok (.aload 5, 2) := by decide +kernel
theorem dX8_item_37 : decode cX8_item 37 = .ok (.getfield 90, 3) := by decide +kernel
theorem dX8_item_40 : decode cX8_item 40 = .ok (.iload_n 2, 1) := by decide +kernel
theorem dX8_item_41 : decode cX8_item 41 = .ok (.if_icmp .eq 6, 3) := by decide +kernel
theorem dX8_item_44 : decode cX8_item 44 = .ok (.bipush (-12), 2) := by decide +kernel
theorem dX8_item_46 : decode cX8_item 46 = .ok (.ireturn, 1) := by decide +kernel
theorem dX8_item_47 : decode cX8_item 47 = .ok (.aload 5, 2) := by decide +kernel
theorem dX8_item_49 : decode cX8_item 49 = .ok (.iload_n 3, 1) := by decide +kernel
theorem dX8_item_50 : decode cX8_item 50 = .ok (.iconst 1, 1) := by decide +kernel
theorem dX8_item_51 : decode cX8_item 51 = .ok (.invokevirtual 93, 3) := by decide +kernel
theorem dX8_item_54 : decode cX8_item 54 = .ok (.ifCond .ne 6, 3) := by decide +kernel
theorem dX8_item_57 : decode cX8_item 57 = .ok (.bipush (-13), 2) := by decide +kernel
theorem dX8_item_59 : decode cX8_item 59 = .ok (.ireturn, 1) := by decide +kernel
theorem dX8_item_60 : decode cX8_item 60 = .ok (.aload 5, 2) := by decide +kernel
theorem dX8_item_62 : decode cX8_item 62 = .ok (.iload_n 3, 1) := by decide +kernel
theorem dX8_item_63 : decode cX8_item 63 = .ok (.iload 4, 2) := by decide +kernel
theorem dX8_item_65 : decode cX8_item 65 = .ok (.invokevirtual 97, 3) := by decide +kernel
theorem dX8_item_68 : decode cX8_item 68 = .ok (.iconst 1, 1) := by decide +kernel
theorem dX8_item_69 : decode cX8_item 69 = .ok (.ireturn, 1) := by decide +kernel
theorem dX8_copy_0 : decode cX8_copy 0 = .ok (.iload_n 1, 1) := by decide +kernel
theorem dX8_copy_1 : decode cX8_copy 1 = .ok (.invokestatic 68, 3) := by decide +kernel
theorem dX8_copy_4 : decode cX8_copy 4 = .ok (.ifCond .eq 10, 3) := by decide +kernel
theorem dX8_copy_7 : decode cX8_copy 7 = .ok (.iload_n 3, 1) := by decide +kernel
theorem dX8_copy_8 : decode cX8_copy 8 = .ok (.invokestatic 68, 3) := by decide +kernel
theorem dX8_copy_11 : decode cX8_copy 11 = .ok (.ifCond .ne 5, 3) := by decide +kernel
theorem dX8_copy_14 : decode cX8_copy 14 = .ok (.iconst (-1), 1) := by decide +kernel
theorem dX8_copy_15 : decode cX8_copy 15 = .ok (.ireturn, 1) := by decide +kernel
theorem dX8_copy_16 : decode cX8_copy 16 = .ok (.aload_n 0, 1) := by decide +kernel
theorem dX8_copy_17 : decode cX8_copy 17 = .ok (.getfield 11, 3) := by decide +kernel
theorem dX8_copy_20 : decode cX8_copy 20 = .ok (.iload_n 1, 1) := by decide +kernel
theorem dX8_copy_21 : decode cX8_copy 21 = .ok (.aaload, 1) := by decide +kernel
theorem dX8_copy_22 : decode cX8_copy 22 = .ok (.astore 6, 2) := by decide +kernel
theorem dX8_copy_24 : decode cX8_copy 24 = .ok (.aload_n 0, 1) := by decide +kernel
theorem dX8_copy_25 : decode cX8_copy 25 = .ok (.getfield 11, 3) := by decide +kernel
theorem dX8_copy_28 : decode cX8_copy 28 = .ok (.iload_n 3, 1) := by decide +kernel
theorem dX8_copy_29 : decode cX8_copy 29 = .ok (.aaload, 1) := by decide +kernel
theorem dX8_copy_30 : decode cX8_copy 30 = .ok (.astore 7, 2) := by decide +kernel
theorem dX8_copy_32 : decode cX8_copy 32 = .ok (.aload 6, 2) := by decide +kernel
theorem dX8_copy_34 : decode cX8_copy 34 = .ok (.invokevirtual 79, 3) := by decide +kernel
theorem dX8_copy_37 : decode cX8_copy 37 = .ok (.ifCond .eq 11, 3) := by decide +kernel
theorem dX8_copy_40 : decode cX8_copy 40 = .ok (.aload 7, 2) := by decide +kernel
theorem dX8_copy_42 : decode cX8_copy 42 = .ok (.invokevirtual 79, 3) := by decide +kernel
theorem dX8_copy_45 : decode cX8_copy 45 = .ok (.ifCond .ne 6, 3) := by decide +kernel
theorem dX8_copy_48 : decode cX8_copy 48 = .ok (.bipush (-11), 2) := by decide +kernel
theorem dX8_copy_50 : decode cX8_copy 50 = .ok (.ireturn, 1) := by decide +kernel
theorem dX8_copy_51 : decode cX8_copy 51 = .ok (.aload 6, 2) := by decide +kernel
theorem dX8_copy_53 : decode cX8_copy 53 = .ok (.getfield 90, 3) := by decide +kernel
theorem dX8_copy_56 : decode cX8_copy 56 = .ok (.aload 7, 2) := by decide +kernel
theorem dX8_copy_58 : decode cX8_copy 58 = .ok (.getfield 90, 3) := by decide +kernel
theorem dX8_copy_61 : decode cX8_copy 61 = .ok (.if_icmp .eq 6, 3) := by decide +kernel
theorem dX8_copy_64 : decode cX8_copy 64 = .ok (.bipush (-12), 2) := by decide +kernel
theorem dX8_copy_66 : decode cX8_copy 66 = .ok (.ireturn, 1) := by decide +kernel
theorem dX8_copy_67 : decode cX8_copy 67 = .ok (.aload 6, 2) := by decide +kernel
theorem dX8_copy_69 : decode cX8_copy 69 = .ok (.iload_n 2, 1) := by decide +kernel
theorem dX8_copy_70 : decode cX8_copy 70 = .ok (.iload 5, 2) := by decide +kernel
theorem dX8_copy_72 : decode cX8_copy 72 = .ok (.invokevirtual 93, 3) := by decide +kernel
theorem dX8_copy_75 : decode cX8_copy 75 = .ok (.ifCond .eq 15, 3) := by decide +kernel
theorem dX8_copy_78 : decode cX8_copy 78 = .ok (.aload 7, 2) := by decide +kernel
theorem dX8_copy_80 : decode cX8_copy 80 = .ok (.iload 4, 2) := by decide +kernel
theorem dX8_copy_82 : decode cX8_copy 82 = .ok (.iload 5, 2) := by decide +kernel
theorem dX8_copy_84 : decode cX8_copy 84 = .ok (.invokevirtual 93, 3) := by decide +kernel
theorem dX8_copy_87 : decode cX8_copy 87 = .ok (.ifCond .ne 6, 3) := by decide +kernel
theorem dX8_copy_90 : decode cX8_copy 90 = .ok (.bipush (-13), 2) := by decide +kernel
theorem dX8_copy_92 : decode cX8_copy 92 = .ok (.ireturn, 1) := by decide +kernel
theorem dX8_copy_93 : decode cX8_copy 93 = .ok (.aload 6, 2) := by decide +kernel
theorem dX8_copy_95 : decode cX8_copy 95 = .ok (.getfield 100, 3) := by decide +kernel
theorem dX8_copy_98 : decode cX8_copy 98 = .ok (.iload_n 2, 1) := by decide +kernel
theorem dX8_copy_99 : decode cX8_copy 99 = .ok (.aload 7, 2) := by decide +kernel
theorem dX8_copy_101 : decode cX8_copy 101 = .ok (.getfield 100, 3) := by decide +kernel
theorem dX8_copy_104 : decode cX8_copy 104 = .ok (.iload 4, 2) := by decide +kernel
theorem dX8_copy_106 : decode cX8_copy 106 = .ok (.iload 5, 2) := by decide +kernel
theorem dX8_copy_108 : decode cX8_copy 108 = .ok (.invokestatic 104, 3) := by decide +kernel
theorem dX8_copy_111 : decode cX8_copy 111 = .ok (.iload 5, 2) := by decide +kernel
theorem dX8_copy_113 : decode cX8_copy 113 = .ok (.ireturn, 1) := by decide +kernel
theorem dX8_points_0 : decode cX8_points 0 = .ok (.iload_n 1, 1) := by decide +kernel
theorem dX8_points_1 : decode cX8_points 1 = .ok (.invokestatic 110, 3) := by decide +kernel
theorem dX8_points_4 : decode cX8_points 4 = .ok (.ifCond .eq 30, 3) := by decide +kernel
theorem dX8_points_7 : decode cX8_points 7 = .ok (.iload_n 2, 1) := by decide +kernel
theorem dX8_points_8 : decode cX8_points 8 = .ok (.invokestatic 68, 3) := by decide +kernel
theorem dX8_points_11 : decode cX8_points 11 = .ok (.ifCond .eq 23, 3) := by decide +kernel
theorem dX8_points_14 : decode cX8_points 14 = .ok (.iload_n 3, 1) := by decide +kernel
theorem dX8_points_15 : decode cX8_points 15 = .ok (.invokestatic 72, 3) := by decide +kernel
theorem dX8_points_18 : decode cX8_points 18 = .ok (.ifCond .eq 16, 3) := by decide +kernel
theorem dX8_points_21 : decode cX8_points 21 = .ok (.iload 5, 2) := by decide +kernel
theorem dX8_points_23 : decode cX8_points 23 = .ok (.iconst 1, 1) := by decide +kernel
theorem dX8_points_24 : decode cX8_points 24 = .ok (.if_icmp .lt 10, 3) := by decide +kernel
theorem dX8_points_27 : decode cX8_points 27 = .ok (.iload 5, 2) := by decide +kernel
theorem dX8_points_29 : decode cX8_points 29 = .ok (.bipush 10, 2) := by decide +kernel
theorem dX8_points_31 : decode cX8_points 31 = .ok (.if_icmp .le 5, 3) := by decide +kernel
theorem dX8_points_34 : decode cX8_points 34 = .ok (.iconst (-1), 1) := by decide +kernel
theorem dX8_points_35 : decode cX8_points 35 = .ok (.ireturn, 1) := by decide +kernel
theorem dX8_points_36 : decode cX8_points 36 = .ok (.aload_n 0, 1) := by decide +kernel
theorem dX8_points_37 : decode cX8_points 37 = .ok (.getfield 11, 3) := by decide +kernel
theorem dX8_points_40 : decode cX8_points 40 = .ok (.iload_n 2, 1) := by decide +kernel
theorem dX8_points_41 : decode cX8_points 41 = .ok (.aaload, 1) := by decide +kernel
theorem dX8_points_42 : decode cX8_points 42 = .ok (.astore 6, 2) := by decide +kernel
theorem dX8_points_44 : decode cX8_points 44 = .ok (.aload 6, 2) := by decide +kernel
theorem dX8_points_46 : decode cX8_points 46 = .ok (.invokevirtual 79, 3) := by decide +kernel
theorem dX8_points_49 : decode cX8_points 49 = .ok (.ifCond .ne 6, 3) := by decide +kernel
theorem dX8_points_52 : decode cX8_points 52 = .ok (.bipush (-11), 2) := by decide +kernel
theorem dX8_points_54 : decode cX8_points 54 = .ok (.ireturn, 1) := by decide +kernel
theorem dX8_points_55 : decode cX8_points 55 = .ok (.aload 6, 2) := by decide +kernel
theorem dX8_points_57 : decode cX8_points 57 = .ok (.getfield 90, 3) := by decide +kernel
theorem dX8_points_60 : decode cX8_points 60 = .ok (.iload_n 3, 1) := by decide +kernel
theorem dX8_points_61 : decode cX8_points 61 = .ok (.if_icmp .eq 6, 3) := by decide +kernel
theorem dX8_points_64 : decode cX8_points 64 = .ok (.bipush (-12), 2) := by decide +kernel
theorem dX8_points_66 : decode cX8_points 66 = .ok (.ireturn, 1) := by decide +kernel
theorem dX8_points_67 : decode cX8_points 67 = .ok (.aload 6, 2) := by decide +kernel
theorem dX8_points_69 : decode cX8_points 69 = .ok (.iload 4, 2) := by decide +kernel
theorem dX8_points_71 : decode cX8_points 71 = .ok (.iconst 4, 1) := by decide +kernel
theorem dX8_points_72 : decode cX8_points 72 = .ok (.iload 5, 2) := by decide +kernel
theorem dX8_points_74 : decode cX8_points 74 = .ok (.imul, 1) := by decide +kernel
theorem dX8_points_75 : decode cX8_points 75 = .ok (.invokevirtual 93, 3) := by decide +kernel
theorem dX8_points_78 : decode cX8_points 78 = .ok (.ifCond .ne 6, 3) := by decide +kernel
theorem dX8_points_81 : decode cX8_points 81 = .ok (.bipush (-13), 2) := by decide +kernel
theorem dX8_points_83 : decode cX8_points 83 = .ok (.ireturn, 1) := by decide +kernel
theorem dX8_points_84 : decode cX8_points 84 = .ok (.aload_n 0, 1) := by decide +kernel
theorem dX8_points_85 : decode cX8_points 85 = .ok (.getfield 17, 3) := by decide +kernel
theorem dX8_points_88 : decode cX8_points 88 = .ok (.iload_n 1, 1) := by decide +kernel
theorem dX8_points_89 : decode cX8_points 89 = .ok (.aaload, 1) := by decide +kernel
theorem dX8_points_90 : decode cX8_points 90 = .ok (.astore 7, 2) := by decide +kernel
theorem dX8_points_92 : decode cX8_points 92 = .ok (.aload 7, 2) := by decide +kernel
theorem dX8_points_94 : decode cX8_points 94 = .ok (.aload 6, 2) := by decide +kernel
theorem dX8_points_96 : decode cX8_points 96 = .ok (.getfield 100, 3) := by decide +kernel
theorem dX8_points_99 : decode cX8_points 99 = .ok (.iload 4, 2) := by decide +kernel
theorem dX8_points_101 : decode cX8_points 101 = .ok (.iload 5, 2) := by decide +kernel
theorem dX8_points_103 : decode cX8_points 103 = .ok (.invokevirtual 113, 3) := by decide +kernel
theorem dX8_points_106 : decode cX8_points 106 = .ok (.ifCond .ne 6, 3) := by decide +kernel
theorem dX8_points_109 : decode cX8_points 109 = .ok (.bipush (-2), 2) := by decide +kernel
theorem dX8_points_111 : decode cX8_points 111 = .ok (.ireturn, 1) := by decide +kernel
theorem dX8_points_112 : decode cX8_points 112 = .ok (.aload 7, 2) := by decide +kernel
theorem dX8_points_114 : decode cX8_points 114 = .ok (.getfield 117, 3) := by decide +kernel
theorem dX8_points_117 : decode cX8_points 117 = .ok (.iload 5, 2) := by decide +kernel
theorem dX8_points_119 : decode cX8_points 119 = .ok (.iadd, 1) := by decide +kernel
theorem dX8_points_120 : decode cX8_points 120 = .ok (.bipush 100, 2) := by decide +kernel
theorem dX8_points_122 : decode cX8_points 122 = .ok (.if_icmp .le 6, 3) := by decide +kernel
theorem dX8_points_125 : decode cX8_points 125 = .ok (.bipush (-3), 2) := by decide +kernel
theorem dX8_points_127 : decode cX8_points 127 = .ok (.ireturn, 1) := by decide +kernel
theorem dX8_points_128 : decode cX8_points 128 = .ok (.aload 7, 2) := by decide +kernel
theorem dX8_points_130 : decode cX8_points 130 = .ok (.aload 6, 2) := by decide +kernel
theorem dX8_points_132 : decode cX8_points 132 = .ok (.getfield 100, 3) := by decide +kernel
theorem dX8_points_135 : decode cX8_points 135 = .ok (.iload 4, 2) := by decide +kernel
theorem dX8_points_137 : decode cX8_points 137 = .ok (.iload 5, 2) := by decide +kernel
theorem dX8_points_139 : decode cX8_points 139 = .ok (.invokevirtual 118, 3) := by decide +kernel
theorem dX8_points_142 : decode cX8_points 142 = .ok (.aload 7, 2) := by decide +kernel
theorem dX8_points_144 : decode cX8_points 144 = .ok (.getfield 117, 3) := by decide +kernel
theorem dX8_points_147 : decode cX8_points 147 = .ok (.ireturn, 1) := by decide +kernel
theorem dX8_told_0 : decode cX8_told 0 = .ok (.iload_n 1, 1) := by decide +kernel
theorem dX8_told_1 : decode cX8_told 1 = .ok (.invokestatic 110, 3) := by decide +kernel
theorem dX8_told_4 : decode cX8_told 4 = .ok (.ifCond .eq 16, 3) := by decide +kernel
theorem dX8_told_7 : decode cX8_told 7 = .ok (.aload_n 0, 1) := by decide +kernel
theorem dX8_told_8 : decode cX8_told 8 = .ok (.getfield 17, 3) := by decide +kernel
theorem dX8_told_11 : decode cX8_told 11 = .ok (.iload_n 1, 1) := by decide +kernel
theorem dX8_told_12 : decode cX8_told 12 = .ok (.aaload, 1) := by decide +kernel
theorem dX8_told_13 : decode cX8_told 13 = .ok (.iload_n 2, 1) := by decide +kernel
theorem dX8_told_14 : decode cX8_told 14 = .ok (.invokevirtual 122, 3) := by decide +kernel
theorem dX8_told_17 : decode cX8_told 17 = .ok (.ifCond .ne 7, 3) := by decide +kernel
theorem dX8_told_20 : decode cX8_told 20 = .ok (.sipush (-10001), 3) := by decide +kernel
theorem dX8_told_23 : decode cX8_told 23 = .ok (.ireturn, 1) := by decide +kernel
theorem dX8_told_24 : decode cX8_told 24 = .ok (.aload_n 0, 1) := by decide +kernel
theorem dX8_told_25 : decode cX8_told 25 = .ok (.getfield 17, 3) := by decide +kernel
theorem dX8_told_28 : decode cX8_told 28 = .ok (.iload_n 1, 1) := by decide +kernel
theorem dX8_told_29 : decode cX8_told 29 = .ok (.aaload, 1) := by decide +kernel
theorem dX8_told_30 : decode cX8_told 30 = .ok (.astore 4, 2) := by decide +kernel
theorem dX8_told_32 : decode cX8_told 32 = .ok (.iload_n 3, 1) := by decide +kernel
theorem dX8_told_33 : decode cX8_told 33 = .ok (.tableswitch 98 0 6 #[43, 51, 59, 66, 74, 82, 90], 43) := by decide +kernel
theorem dX8_told_76 : decode cX8_told 76 = .ok (.aload 4, 2) := by decide +kernel
theorem dX8_told_78 : decode cX8_told 78 = .ok (.getfield 125, 3) := by decide +kernel
theorem dX8_told_81 : decode cX8_told 81 = .ok (.iload_n 2, 1) := by decide +kernel
theorem dX8_told_82 : decode cX8_told 82 = .ok (.iaload, 1) := by decide +kernel
theorem dX8_told_83 : decode cX8_told 83 = .ok (.ireturn, 1) := by decide +kernel
theorem dX8_told_84 : decode cX8_told 84 = .ok (.aload 4, 2) := by decide +kernel
theorem dX8_told_86 : decode cX8_told 86 = .ok (.getfield 128, 3) := by decide +kernel
theorem dX8_told_89 : decode cX8_told 89 = .ok (.iload_n 2, 1) := by decide +kernel
theorem dX8_told_90 : decode cX8_told 90 = .ok (.iaload, 1) := by decide +kernel
theorem dX8_told_91 : decode cX8_told 91 = .ok (.ireturn, 1) := by decide +kernel
theorem dX8_told_92 : decode cX8_told 92 = .ok (.aload 4, 2) := by decide +kernel
theorem dX8_told_94 : decode cX8_told 94 = .ok (.iload_n 2, 1) := by decide +kernel
theorem dX8_told_95 : decode cX8_told 95 = .ok (.invokevirtual 131, 3) := by decide +kernel
theorem dX8_told_98 : decode cX8_told 98 = .ok (.ireturn, 1) := by decide +kernel
theorem dX8_told_99 : decode cX8_told 99 = .ok (.aload 4, 2) := by decide +kernel
theorem dX8_told_101 : decode cX8_told 101 = .ok (.getfield 135, 3) := by decide +kernel
theorem dX8_told_104 : decode cX8_told 104 = .ok (.iload_n 2, 1) := by decide +kernel
theorem dX8_told_105 : decode cX8_told 105 = .ok (.iaload, 1) := by decide +kernel
theorem dX8_told_106 : decode cX8_told 106 = .ok (.ireturn, 1) := by decide +kernel
theorem dX8_told_107 : decode cX8_told 107 = .ok (.aload 4, 2) := by decide +kernel
theorem dX8_told_109 : decode cX8_told 109 = .ok (.getfield 138, 3) := by decide +kernel
theorem dX8_told_112 : decode cX8_told 112 = .ok (.iload_n 2, 1) := by decide +kernel
theorem dX8_told_113 : decode cX8_told 113 = .ok (.iaload, 1) := by decide +kernel
theorem dX8_told_114 : decode cX8_told 114 = .ok (.ireturn, 1) := by decide +kernel
theorem dX8_told_115 : decode cX8_told 115 = .ok (.aload 4, 2) := by decide +kernel
theorem dX8_told_117 : decode cX8_told 117 = .ok (.getfield 141, 3) := by decide +kernel
theorem dX8_told_120 : decode cX8_told 120 = .ok (.iload_n 2, 1) := by decide +kernel
theorem dX8_told_121 : decode cX8_told 121 = .ok (.iaload, 1) := by decide +kernel
theorem dX8_told_122 : decode cX8_told 122 = .ok (.ireturn, 1) := by decide +kernel
theorem dX8_told_123 : decode cX8_told 123 = .ok (.aload 4, 2) := by decide +kernel
theorem dX8_told_125 : decode cX8_told 125 = .ok (.getfield 144, 3) := by decide +kernel
theorem dX8_told_128 : decode cX8_told 128 = .ok (.iload_n 2, 1) := by decide +kernel
theorem dX8_told_129 : decode cX8_told 129 = .ok (.iaload, 1) := by decide +kernel
theorem dX8_told_130 : decode cX8_told 130 = .ok (.ireturn, 1) := by decide +kernel
theorem dX8_told_131 : decode cX8_told 131 = .ok (.sipush (-10001), 3) := by decide +kernel
theorem dX8_told_134 : decode cX8_told 134 = .ok (.ireturn, 1) := by decide +kernel
theorem dX8_lose_0 : decode cX8_lose 0 = .ok (.iload_n 1, 1) := by decide +kernel
theorem dX8_lose_1 : decode cX8_lose 1 = .ok (.invokestatic 110, 3) := by decide +kernel
theorem dX8_lose_4 : decode cX8_lose 4 = .ok (.ifCond .eq 13, 3) := by decide +kernel
theorem dX8_lose_7 : decode cX8_lose 7 = .ok (.iload_n 2, 1) := by decide +kernel
theorem dX8_lose_8 : decode cX8_lose 8 = .ok (.ifCond .lt 9, 3) := by decide +kernel
theorem dX8_lose_11 : decode cX8_lose 11 = .ok (.iload_n 2, 1) := by decide +kernel
theorem dX8_lose_12 : decode cX8_lose 12 = .ok (.bipush 16, 2) := by decide +kernel
theorem dX8_lose_14 : decode cX8_lose 14 = .ok (.if_icmp .lt 5, 3) := by decide +kernel
theorem dX8_lose_17 : decode cX8_lose 17 = .ok (.iconst (-1), 1) := by decide +kernel
theorem dX8_lose_18 : decode cX8_lose 18 = .ok (.ireturn, 1) := by decide +kernel
theorem dX8_lose_19 : decode cX8_lose 19 = .ok (.aload_n 0, 1) := by decide +kernel
theorem dX8_lose_20 : decode cX8_lose 20 = .ok (.getfield 17, 3) := by decide +kernel
theorem dX8_lose_23 : decode cX8_lose 23 = .ok (.iload_n 1, 1) := by decide +kernel
theorem dX8_lose_24 : decode cX8_lose 24 = .ok (.aaload, 1) := by decide +kernel
theorem dX8_lose_25 : decode cX8_lose 25 = .ok (.astore_n 3, 1) := by decide +kernel
theorem dX8_lose_26 : decode cX8_lose 26 = .ok (.aload_n 3, 1) := by decide +kernel
theorem dX8_lose_27 : decode cX8_lose 27 = .ok (.getfield 147, 3) := by decide +kernel
theorem dX8_lose_30 : decode cX8_lose 30 = .ok (.iload_n 2, 1) := by decide +kernel
theorem dX8_lose_31 : decode cX8_lose 31 = .ok (.baload, 1) := by decide +kernel
theorem dX8_lose_32 : decode cX8_lose 32 = .ok (.ifCond .eq 6, 3) := by decide +kernel
theorem dX8_lose_35 : decode cX8_lose 35 = .ok (.bipush (-2), 2) := by decide +kernel
theorem dX8_lose_37 : decode cX8_lose 37 = .ok (.ireturn, 1) := by decide +kernel
theorem dX8_lose_38 : decode cX8_lose 38 = .ok (.aload_n 3, 1) := by decide +kernel
theorem dX8_lose_39 : decode cX8_lose 39 = .ok (.getfield 147, 3) := by decide +kernel
theorem dX8_lose_42 : decode cX8_lose 42 = .ok (.iload_n 2, 1) := by decide +kernel
theorem dX8_lose_43 : decode cX8_lose 43 = .ok (.iconst 1, 1) := by decide +kernel
theorem dX8_lose_44 : decode cX8_lose 44 = .ok (.bastore, 1) := by decide +kernel
theorem dX8_lose_45 : decode cX8_lose 45 = .ok (.aload_n 3, 1) := by decide +kernel
theorem dX8_lose_46 : decode cX8_lose 46 = .ok (.iload_n 2, 1) := by decide +kernel
theorem dX8_lose_47 : decode cX8_lose 47 = .ok (.invokevirtual 151, 3) := by decide +kernel
theorem dX8_lose_50 : decode cX8_lose 50 = .ok (.ireturn, 1) := by decide +kernel
theorem dX8_box_0 : decode cX8_box 0 = .ok (.iload_n 1, 1) := by decide +kernel
theorem dX8_box_1 : decode cX8_box 1 = .ok (.invokestatic 110, 3) := by decide +kernel
theorem dX8_box_4 : decode cX8_box 4 = .ok (.ifCond .eq 21, 3) := by decide +kernel
theorem dX8_box_7 : decode cX8_box 7 = .ok (.iload_n 2, 1) := by decide +kernel
theorem dX8_box_8 : decode cX8_box 8 = .ok (.iload 4, 2) := by decide +kernel
theorem dX8_box_10 : decode cX8_box 10 = .ok (.invokestatic 154, 3) := by decide +kernel
theorem dX8_box_13 : decode cX8_box 13 = .ok (.ifCond .eq 12, 3) := by decide +kernel
theorem dX8_box_16 : decode cX8_box 16 = .ok (.iload_n 3, 1) := by decide +kernel
theorem dX8_box_17 : decode cX8_box 17 = .ok (.iload 5, 2) := by decide +kernel
theorem dX8_box_19 : decode cX8_box 19 = .ok (.invokestatic 154, 3) := by decide +kernel
theorem dX8_box_22 : decode cX8_box 22 = .ok (.ifCond .ne 5, 3) := by decide +kernel
theorem dX8_box_25 : decode cX8_box 25 = .ok (.iconst (-1), 1) := by decide +kernel
theorem dX8_box_26 : decode cX8_box 26 = .ok (.ireturn, 1) := by decide +kernel
theorem dX8_box_27 : decode cX8_box 27 = .ok (.aload_n 0, 1) := by decide +kernel
theorem dX8_box_28 : decode cX8_box 28 = .ok (.getfield 17, 3) := by decide +kernel
theorem dX8_box_31 : decode cX8_box 31 = .ok (.iload_n 1, 1) := by decide +kernel
theorem dX8_box_32 : decode cX8_box 32 = .ok (.aaload, 1) := by decide +kernel
theorem dX8_box_33 : decode cX8_box 33 = .ok (.astore 6, 2) := by decide +kernel
theorem dX8_box_35 : decode cX8_box 35 = .ok (.aload 6, 2) := by decide +kernel
theorem dX8_box_37 : decode cX8_box 37 = .ok (.iload_n 2, 1) := by decide +kernel
theorem dX8_box_38 : decode cX8_box 38 = .ok (.iload_n 3, 1) := by decide +kernel
theorem dX8_box_39 : decode cX8_box 39 = .ok (.iload 4, 2) := by decide +kernel
theorem dX8_box_41 : decode cX8_box 41 = .ok (.iload 5, 2) := by decide +kernel
theorem dX8_box_43 : decode cX8_box 43 = .ok (.invokevirtual 157, 3) := by decide +kernel
theorem dX8_box_46 : decode cX8_box 46 = .ok (.ifCond .eq 6, 3) := by decide +kernel
theorem dX8_box_49 : decode cX8_box 49 = .ok (.bipush (-2), 2) := by decide +kernel
theorem dX8_box_51 : decode cX8_box 51 = .ok (.ireturn, 1) := by decide +kernel
theorem dX8_box_52 : decode cX8_box 52 = .ok (.aload 6, 2) := by decide +kernel
theorem dX8_box_54 : decode cX8_box 54 = .ok (.iload_n 2, 1) := by decide +kernel
theorem dX8_box_55 : decode cX8_box 55 = .ok (.iload_n 3, 1) := by decide +kernel
theorem dX8_box_56 : decode cX8_box 56 = .ok (.iload 4, 2) := by decide +kernel
theorem dX8_box_58 : decode cX8_box 58 = .ok (.iload 5, 2) := by decide +kernel
theorem dX8_box_60 : decode cX8_box 60 = .ok (.invokevirtual 161, 3) := by decide +kernel
theorem dX8_box_63 : decode cX8_box 63 = .ok (.ireturn, 1) := by decide +kernel
theorem dX8_shift_0 : decode cX8_shift 0 = .ok (.iload_n 1, 1) := by decide +kernel
theorem dX8_shift_1 : decode cX8_shift 1 = .ok (.invokestatic 110, 3) := by decide +kernel
theorem dX8_shift_4 : decode cX8_shift 4 = .ok (.ifCond .eq 26, 3) := by decide +kernel
theorem dX8_shift_7 : decode cX8_shift 7 = .ok (.iload_n 2, 1) := by decide +kernel
theorem dX8_shift_8 : decode cX8_shift 8 = .ok (.ifCond .lt 22, 3) := by decide +kernel
theorem dX8_shift_11 : decode cX8_shift 11 = .ok (.iload_n 2, 1) := by decide +kernel
theorem dX8_shift_12 : decode cX8_shift 12 = .ok (.iconst 4, 1) := by decide +kernel
theorem dX8_shift_13 : decode cX8_shift 13 = .ok (.if_icmp .ge 17, 3) := by decide +kernel
theorem dX8_shift_16 : decode cX8_shift 16 = .ok (.iload_n 3, 1) := by decide +kernel
theorem dX8_shift_17 : decode cX8_shift 17 = .ok (.sipush (-1000), 3) := by decide +kernel
theorem dX8_shift_20 : decode cX8_shift 20 = .ok (.if_icmp .lt 10, 3) := by decide +kernel
theorem dX8_shift_23 : decode cX8_shift 23 = .ok (.iload_n 3, 1) := by decide +kernel
theorem dX8_shift_24 : decode cX8_shift 24 = .ok (.sipush 1000, 3) := by decide +kernel
theorem dX8_shift_27 : decode cX8_shift 27 = .ok (.if_icmp .le 7, 3) := by decide +kernel
theorem dX8_shift_30 : decode cX8_shift 30 = .ok (.sipush (-10001), 3) := by decide +kernel
theorem dX8_shift_33 : decode cX8_shift 33 = .ok (.ireturn, 1) := by decide +kernel
theorem dX8_shift_34 : decode cX8_shift 34 = .ok (.aload_n 0, 1) := by decide +kernel
theorem dX8_shift_35 : decode cX8_shift 35 = .ok (.getfield 17, 3) := by decide +kernel
theorem dX8_shift_38 : decode cX8_shift 38 = .ok (.iload_n 1, 1) := by decide +kernel
theorem dX8_shift_39 : decode cX8_shift 39 = .ok (.aaload, 1) := by decide +kernel
theorem dX8_shift_40 : decode cX8_shift 40 = .ok (.getfield 165, 3) := by decide +kernel
theorem dX8_shift_43 : decode cX8_shift 43 = .ok (.iload_n 2, 1) := by decide +kernel
theorem dX8_shift_44 : decode cX8_shift 44 = .ok (.iaload, 1) := by decide +kernel
theorem dX8_shift_45 : decode cX8_shift 45 = .ok (.istore 4, 2) := by decide +kernel
theorem dX8_shift_47 : decode cX8_shift 47 = .ok (.aload_n 0, 1) := by decide +kernel
theorem dX8_shift_48 : decode cX8_shift 48 = .ok (.getfield 17, 3) := by decide +kernel
theorem dX8_shift_51 : decode cX8_shift 51 = .ok (.iload_n 1, 1) := by decide +kernel
theorem dX8_shift_52 : decode cX8_shift 52 = .ok (.aaload, 1) := by decide +kernel
theorem dX8_shift_53 : decode cX8_shift 53 = .ok (.getfield 165, 3) := by decide +kernel
theorem dX8_shift_56 : decode cX8_shift 56 = .ok (.iload_n 2, 1) := by decide +kernel
theorem dX8_shift_57 : decode cX8_shift 57 = .ok (.iload_n 3, 1) := by decide +kernel
theorem dX8_shift_58 : decode cX8_shift 58 = .ok (.iastore, 1) := by decide +kernel
theorem dX8_shift_59 : decode cX8_shift 59 = .ok (.iload 4, 2) := by decide +kernel
theorem dX8_shift_61 : decode cX8_shift 61 = .ok (.ireturn, 1) := by decide +kernel
theorem dX8_fit_0 : decode cX8_fit 0 = .ok (.iload_n 1, 1) := by decide +kernel
theorem dX8_fit_1 : decode cX8_fit 1 = .ok (.invokestatic 110, 3) := by decide +kernel
theorem dX8_fit_4 : decode cX8_fit 4 = .ok (.ifCond .ne 5, 3) := by decide +kernel
theorem dX8_fit_7 : decode cX8_fit 7 = .ok (.iconst (-1), 1) := by decide +kernel
theorem dX8_fit_8 : decode cX8_fit 8 = .ok (.ireturn, 1) := by decide +kernel
theorem dX8_fit_9 : decode cX8_fit 9 = .ok (.aload_n 0, 1) := by decide +kernel
theorem dX8_fit_10 : decode cX8_fit 10 = .ok (.getfield 38, 3) := by decide +kernel
theorem dX8_fit_13 : decode cX8_fit 13 = .ok (.aload_n 0, 1) := by decide +kernel
theorem dX8_fit_14 : decode cX8_fit 14 = .ok (.getfield 17, 3) := by decide +kernel
theorem dX8_fit_17 : decode cX8_fit 17 = .ok (.iload_n 1, 1) := by decide +kernel
theorem dX8_fit_18 : decode cX8_fit 18 = .ok (.aaload, 1) := by decide +kernel
theorem dX8_fit_19 : decode cX8_fit 19 = .ok (.invokevirtual 168, 3) := by decide +kernel
theorem dX8_fit_22 : decode cX8_fit 22 = .ok (.ireturn, 1) := by decide +kernel
theorem dX8_leftOver_0 : decode cX8_leftOver 0 = .ok (.iload_n 1, 1) := by decide +kernel
theorem dX8_leftOver_1 : decode cX8_leftOver 1 = .ok (.invokestatic 110, 3) := by decide +kernel
theorem dX8_leftOver_4 : decode cX8_leftOver 4 = .ok (.ifCond .ne 7, 3) := by decide +kernel
theorem dX8_leftOver_7 : decode cX8_leftOver 7 = .ok (.ldc2_w 172, 3) := by decide +kernel
theorem dX8_leftOver_10 : decode cX8_leftOver 10 = .ok (.lreturn, 1) := by decide +kernel
theorem dX8_leftOver_11 : decode cX8_leftOver 11 = .ok (.aload_n 0, 1) := by decide +kernel
theorem dX8_leftOver_12 : decode cX8_leftOver 12 = .ok (.getfield 17, 3) := by decide +kernel
theorem dX8_leftOver_15 : decode cX8_leftOver 15 = .ok (.iload_n 1, 1) := by decide +kernel
theorem dX8_leftOver_16 : decode cX8_leftOver 16 = .ok (.aaload, 1) := by decide +kernel
theorem dX8_leftOver_17 : decode cX8_leftOver 17 = .ok (.invokevirtual 174, 3) := by decide +kernel
theorem dX8_leftOver_20 : decode cX8_leftOver 20 = .ok (.lreturn, 1) := by decide +kernel
theorem dX8_hand_0 : decode cX8_hand 0 = .ok (.iload_n 1, 1) := by decide +kernel
theorem dX8_hand_1 : decode cX8_hand 1 = .ok (.invokestatic 110, 3) := by decide +kernel
theorem dX8_hand_4 : decode cX8_hand 4 = .ok (.ifCond .eq 25, 3) := by decide +kernel
theorem dX8_hand_7 : decode cX8_hand 7 = .ok (.aload_n 0, 1) := by decide +kernel
theorem dX8_hand_8 : decode cX8_hand 8 = .ok (.getfield 17, 3) := by decide +kernel
theorem dX8_hand_11 : decode cX8_hand 11 = .ok (.iload_n 1, 1) := by decide +kernel
theorem dX8_hand_12 : decode cX8_hand 12 = .ok (.aaload, 1) := by decide +kernel
theorem dX8_hand_13 : decode cX8_hand 13 = .ok (.iload_n 2, 1) := by decide +kernel
theorem dX8_hand_14 : decode cX8_hand 14 = .ok (.invokevirtual 122, 3) := by decide +kernel
theorem dX8_hand_17 : decode cX8_hand 17 = .ok (.ifCond .eq 12, 3) := by decide +kernel
theorem dX8_hand_20 : decode cX8_hand 20 = .ok (.iload_n 3, 1) := by decide +kernel
theorem dX8_hand_21 : decode cX8_hand 21 = .ok (.ifCond .lt 8, 3) := by decide +kernel
theorem dX8_hand_24 : decode cX8_hand 24 = .ok (.iload_n 3, 1) := by decide +kernel
theorem dX8_hand_25 : decode cX8_hand 25 = .ok (.iconst 2, 1) := by decide +kernel
theorem dX8_hand_26 : decode cX8_hand 26 = .ok (.if_icmp .le 5, 3) := by decide +kernel
theorem dX8_hand_29 : decode cX8_hand 29 = .ok (.iconst (-1), 1) := by decide +kernel
theorem dX8_hand_30 : decode cX8_hand 30 = .ok (.ireturn, 1) := by decide +kernel
theorem dX8_hand_31 : decode cX8_hand 31 = .ok (.aload_n 0, 1) := by decide +kernel
theorem dX8_hand_32 : decode cX8_hand 32 = .ok (.getfield 17, 3) := by decide +kernel
theorem dX8_hand_35 : decode cX8_hand 35 = .ok (.iload_n 1, 1) := by decide +kernel
theorem dX8_hand_36 : decode cX8_hand 36 = .ok (.aaload, 1) := by decide +kernel
theorem dX8_hand_37 : decode cX8_hand 37 = .ok (.astore 4, 2) := by decide +kernel
theorem dX8_hand_39 : decode cX8_hand 39 = .ok (.aload 4, 2) := by decide +kernel
theorem dX8_hand_41 : decode cX8_hand 41 = .ok (.getfield 141, 3) := by decide +kernel
theorem dX8_hand_44 : decode cX8_hand 44 = .ok (.iload_n 2, 1) := by decide +kernel
theorem dX8_hand_45 : decode cX8_hand 45 = .ok (.iaload, 1) := by decide +kernel
theorem dX8_hand_46 : decode cX8_hand 46 = .ok (.istore 5, 2) := by decide +kernel
theorem dX8_hand_48 : decode cX8_hand 48 = .ok (.aload 4, 2) := by decide +kernel
theorem dX8_hand_50 : decode cX8_hand 50 = .ok (.getfield 141, 3) := by decide +kernel
theorem dX8_hand_53 : decode cX8_hand 53 = .ok (.iload_n 2, 1) := by decide +kernel
theorem dX8_hand_54 : decode cX8_hand 54 = .ok (.iload_n 3, 1) := by decide +kernel
theorem dX8_hand_55 : decode cX8_hand 55 = .ok (.iastore, 1) := by decide +kernel
theorem dX8_hand_56 : decode cX8_hand 56 = .ok (.aload 4, 2) := by decide +kernel
theorem dX8_hand_58 : decode cX8_hand 58 = .ok (.iload_n 2, 1) := by decide +kernel
theorem dX8_hand_59 : decode cX8_hand 59 = .ok (.iload_n 3, 1) := by decide +kernel
theorem dX8_hand_60 : decode cX8_hand 60 = .ok (.iload_n 3, 1) := by decide +kernel
theorem dX8_hand_61 : decode cX8_hand 61 = .ok (.iconst 1, 1) := by decide +kernel
theorem dX8_hand_62 : decode cX8_hand 62 = .ok (.if_icmp .ne 7, 3) := by decide +kernel
theorem dX8_hand_65 : decode cX8_hand 65 = .ok (.iconst 0, 1) := by decide +kernel
theorem dX8_hand_66 : decode cX8_hand 66 = .ok (.goto 4, 3) := by decide +kernel
theorem dX8_hand_69 : decode cX8_hand 69 = .ok (.iconst (-1), 1) := by decide +kernel
theorem dX8_hand_70 : decode cX8_hand 70 = .ok (.invokevirtual 178, 3) := by decide +kernel
theorem dX8_hand_73 : decode cX8_hand 73 = .ok (.iload 5, 2) := by decide +kernel
theorem dX8_hand_75 : decode cX8_hand 75 = .ok (.ireturn, 1) := by decide +kernel
theorem dX8_grow_0 : decode cX8_grow 0 = .ok (.iload_n 1, 1) := by decide +kernel
theorem dX8_grow_1 : decode cX8_grow 1 = .ok (.invokestatic 110, 3) := by decide +kernel
theorem dX8_grow_4 : decode cX8_grow 4 = .ok (.ifCond .eq 37, 3) := by decide +kernel
theorem dX8_grow_7 : decode cX8_grow 7 = .ok (.iload_n 2, 1) := by decide +kernel
theorem dX8_grow_8 : decode cX8_grow 8 = .ok (.ifCond .lt 33, 3) := by decide +kernel
theorem dX8_grow_11 : decode cX8_grow 11 = .ok (.iload_n 2, 1) := by decide +kernel
theorem dX8_grow_12 : decode cX8_grow 12 = .ok (.bipush 100, 2) := by decide +kernel
theorem dX8_grow_14 : decode cX8_grow 14 = .ok (.if_icmp .gt 27, 3) := by decide +kernel
theorem dX8_grow_17 : decode cX8_grow 17 = .ok (.iload_n 3, 1) := by decide +kernel
theorem dX8_grow_18 : decode cX8_grow 18 = .ok (.iconst 1, 1) := by decide +kernel
theorem dX8_grow_19 : decode cX8_grow 19 = .ok (.if_icmp .lt 22, 3) := by decide +kernel
theorem dX8_grow_22 : decode cX8_grow 22 = .ok (.iload_n 3, 1) := by decide +kernel
theorem dX8_grow_23 : decode cX8_grow 23 = .ok (.bipush 100, 2) := by decide +kernel
theorem dX8_grow_25 : decode cX8_grow 25 = .ok (.if_icmp .gt 16, 3) := by decide +kernel
theorem dX8_grow_28 : decode cX8_grow 28 = .ok (.iload 4, 2) := by decide +kernel
theorem dX8_grow_30 : decode cX8_grow 30 = .ok (.iconst 1, 1) := by decide +kernel
theorem dX8_grow_31 : decode cX8_grow 31 = .ok (.if_icmp .lt 10, 3) := by decide +kernel
theorem dX8_grow_34 : decode cX8_grow 34 = .ok (.iload 4, 2) := by decide +kernel
theorem dX8_grow_36 : decode cX8_grow 36 = .ok (.bipush 20, 2) := by decide +kernel
theorem dX8_grow_38 : decode cX8_grow 38 = .ok (.if_icmp .le 5, 3) := by decide +kernel
theorem dX8_grow_41 : decode cX8_grow 41 = .ok (.iconst (-1), 1) := by decide +kernel
theorem dX8_grow_42 : decode cX8_grow 42 = .ok (.ireturn, 1) := by decide +kernel
theorem dX8_grow_43 : decode cX8_grow 43 = .ok (.aload_n 0, 1) := by decide +kernel
theorem dX8_grow_44 : decode cX8_grow 44 = .ok (.getfield 17, 3) := by decide +kernel
theorem dX8_grow_47 : decode cX8_grow 47 = .ok (.iload_n 1, 1) := by decide +kernel
theorem dX8_grow_48 : decode cX8_grow 48 = .ok (.aaload, 1) := by decide +kernel
theorem dX8_grow_49 : decode cX8_grow 49 = .ok (.iload_n 2, 1) := by decide +kernel
theorem dX8_grow_50 : decode cX8_grow 50 = .ok (.iload_n 3, 1) := by decide +kernel
theorem dX8_grow_51 : decode cX8_grow 51 = .ok (.iload 4, 2) := by decide +kernel
theorem dX8_grow_53 : decode cX8_grow 53 = .ok (.invokevirtual 182, 3) := by decide +kernel
theorem dX8_grow_56 : decode cX8_grow 56 = .ok (.ireturn, 1) := by decide +kernel
theorem dX8_roofs_0 : decode cX8_roofs 0 = .ok (.iload_n 1, 1) := by decide +kernel
theorem dX8_roofs_1 : decode cX8_roofs 1 = .ok (.invokestatic 110, 3) := by decide +kernel
theorem dX8_roofs_4 : decode cX8_roofs 4 = .ok (.ifCond .eq 24, 3) := by decide +kernel
theorem dX8_roofs_7 : decode cX8_roofs 7 = .ok (.iload_n 2, 1) := by decide +kernel
theorem dX8_roofs_8 : decode cX8_roofs 8 = .ok (.ifCond .lt 20, 3) := by decide +kernel
theorem dX8_roofs_11 : decode cX8_roofs 11 = .ok (.iload_n 2, 1) := by decide +kernel
theorem dX8_roofs_12 : decode cX8_roofs 12 = .ok (.bipush 50, 2) := by decide +kernel
theorem dX8_roofs_14 : decode cX8_roofs 14 = .ok (.if_icmp .gt 14, 3) := by decide +kernel
theorem dX8_roofs_17 : decode cX8_roofs 17 = .ok (.iload_n 3, 1) := by decide +kernel
theorem dX8_roofs_18 : decode cX8_roofs 18 = .ok (.iconst 3, 1) := by decide +kernel
theorem dX8_roofs_19 : decode cX8_roofs 19 = .ok (.if_icmp .lt 9, 3) := by decide +kernel
theorem dX8_roofs_22 : decode cX8_roofs 22 = .ok (.iload_n 3, 1) := by decide +kernel
theorem dX8_roofs_23 : decode cX8_roofs 23 = .ok (.bipush 40, 2) := by decide +kernel
theorem dX8_roofs_25 : decode cX8_roofs 25 = .ok (.if_icmp .le 5, 3) := by decide +kernel
theorem dX8_roofs_28 : decode cX8_roofs 28 = .ok (.iconst (-1), 1) := by decide +kernel
theorem dX8_roofs_29 : decode cX8_roofs 29 = .ok (.ireturn, 1) := by decide +kernel
theorem dX8_roofs_30 : decode cX8_roofs 30 = .ok (.aload_n 0, 1) := by decide +kernel
theorem dX8_roofs_31 : decode cX8_roofs 31 = .ok (.getfield 45, 3) := by decide +kernel
theorem dX8_roofs_34 : decode cX8_roofs 34 = .ok (.aload_n 0, 1) := by decide +kernel
theorem dX8_roofs_35 : decode cX8_roofs 35 = .ok (.getfield 17, 3) := by decide +kernel
theorem dX8_roofs_38 : decode cX8_roofs 38 = .ok (.iload_n 1, 1) := by decide +kernel
theorem dX8_roofs_39 : decode cX8_roofs 39 = .ok (.aaload, 1) := by decide +kernel
theorem dX8_roofs_40 : decode cX8_roofs 40 = .ok (.iload_n 2, 1) := by decide +kernel
theorem dX8_roofs_41 : decode cX8_roofs 41 = .ok (.iload_n 3, 1) := by decide +kernel
theorem dX8_roofs_42 : decode cX8_roofs 42 = .ok (.invokevirtual 186, 3) := by decide +kernel
theorem dX8_roofs_45 : decode cX8_roofs 45 = .ok (.ireturn, 1) := by decide +kernel
theorem dX8_count_0 : decode cX8_count 0 = .ok (.iload_n 1, 1) := by decide +kernel
theorem dX8_count_1 : decode cX8_count 1 = .ok (.invokestatic 110, 3) := by decide +kernel
theorem dX8_count_4 : decode cX8_count 4 = .ok (.ifCond .eq 13, 3) := by decide +kernel
theorem dX8_count_7 : decode cX8_count 7 = .ok (.iload_n 2, 1) := by decide +kernel
theorem dX8_count_8 : decode cX8_count 8 = .ok (.ifCond .lt 9, 3) := by decide +kernel
theorem dX8_count_11 : decode cX8_count 11 = .ok (.iload_n 2, 1) := by decide +kernel
theorem dX8_count_12 : decode cX8_count 12 = .ok (.bipush 13, 2) := by decide +kernel
theorem dX8_count_14 : decode cX8_count 14 = .ok (.if_icmp .le 5, 3) := by decide +kernel
theorem dX8_count_17 : decode cX8_count 17 = .ok (.iconst (-1), 1) := by decide +kernel
theorem dX8_count_18 : decode cX8_count 18 = .ok (.ireturn, 1) := by decide +kernel
theorem dX8_count_19 : decode cX8_count 19 = .ok (.aload_n 0, 1) := by decide +kernel
theorem dX8_count_20 : decode cX8_count 20 = .ok (.getfield 17, 3) := by decide +kernel
theorem dX8_count_23 : decode cX8_count 23 = .ok (.iload_n 1, 1) := by decide +kernel
theorem dX8_count_24 : decode cX8_count 24 = .ok (.aaload, 1) := by decide +kernel
theorem dX8_count_25 : decode cX8_count 25 = .ok (.astore_n 3, 1) := by decide +kernel
theorem dX8_count_26 : decode cX8_count 26 = .ok (.iload_n 2, 1) := by decide +kernel
theorem dX8_count_27 : decode cX8_count 27 = .ok (.bipush 11, 2) := by decide +kernel
theorem dX8_count_29 : decode cX8_count 29 = .ok (.if_icmp .ne 8, 3) := by decide +kernel
theorem dX8_count_32 : decode cX8_count 32 = .ok (.aload_n 3, 1) := by decide +kernel
theorem dX8_count_33 : decode cX8_count 33 = .ok (.getfield 117, 3) := by decide +kernel
theorem dX8_count_36 : decode cX8_count 36 = .ok (.ireturn, 1) := by decide +kernel
theorem dX8_count_37 : decode cX8_count 37 = .ok (.iload_n 2, 1) := by decide +kernel
theorem dX8_count_38 : decode cX8_count 38 = .ok (.bipush 12, 2) := by decide +kernel
theorem dX8_count_40 : decode cX8_count 40 = .ok (.if_icmp .ne 8, 3) := by decide +kernel
theorem dX8_count_43 : decode cX8_count 43 = .ok (.aload_n 3, 1) := by decide +kernel
theorem dX8_count_44 : decode cX8_count 44 = .ok (.invokevirtual 190, 3) := by decide +kernel
theorem dX8_count_47 : decode cX8_count 47 = .ok (.ireturn, 1) := by decide +kernel
theorem dX8_count_48 : decode cX8_count 48 = .ok (.iload_n 2, 1) := by decide +kernel
theorem dX8_count_49 : decode cX8_count 49 = .ok (.bipush 13, 2) := by decide +kernel
theorem dX8_count_51 : decode cX8_count 51 = .ok (.if_icmp .ne 19, 3) := by decide +kernel
theorem dX8_count_54 : decode cX8_count 54 = .ok (.aload_n 0, 1) := by decide +kernel
theorem dX8_count_55 : decode cX8_count 55 = .ok (.getfield 59, 3) := by decide +kernel
theorem dX8_count_58 : decode cX8_count 58 = .ok (.aload_n 3, 1) := by decide +kernel
theorem dX8_count_59 : decode cX8_count 59 = .ok (.invokevirtual 194, 3) := by decide +kernel
theorem dX8_count_62 : decode cX8_count 62 = .ok (.aload_n 0, 1) := by decide +kernel
theorem dX8_count_63 : decode cX8_count 63 = .ok (.getfield 59, 3) := by decide +kernel
theorem dX8_count_66 : decode cX8_count 66 = .ok (.invokevirtual 198, 3) := by decide +kernel
theorem dX8_count_69 : decode cX8_count 69 = .ok (.ireturn, 1) := by decide +kernel
theorem dX8_count_70 : decode cX8_count 70 = .ok (.aload_n 3, 1) := by decide +kernel
theorem dX8_count_71 : decode cX8_count 71 = .ok (.iload_n 2, 1) := by decide +kernel
theorem dX8_count_72 : decode cX8_count 72 = .ok (.invokevirtual 201, 3) := by decide +kernel
theorem dX8_count_75 : decode cX8_count 75 = .ok (.ireturn, 1) := by decide +kernel
theorem dX8_grid_0 : decode cX8_grid 0 = .ok (.iload_n 1, 1) := by decide +kernel
theorem dX8_grid_1 : decode cX8_grid 1 = .ok (.invokestatic 110, 3) := by decide +kernel
theorem dX8_grid_4 : decode cX8_grid 4 = .ok (.ifCond .eq 17, 3) := by decide +kernel
theorem dX8_grid_7 : decode cX8_grid 7 = .ok (.iload_n 2, 1) := by decide +kernel
theorem dX8_grid_8 : decode cX8_grid 8 = .ok (.invokestatic 204, 3) := by decide +kernel
theorem dX8_grid_11 : decode cX8_grid 11 = .ok (.ifCond .eq 10, 3) := by decide +kernel
theorem dX8_grid_14 : decode cX8_grid 14 = .ok (.iload_n 3, 1) := by decide +kernel
theorem dX8_grid_15 : decode cX8_grid 15 = .ok (.invokestatic 204, 3) := by decide +kernel
theorem dX8_grid_18 : decode cX8_grid 18 = .ok (.ifCond .ne 7, 3) := by decide +kernel
theorem dX8_grid_21 : decode cX8_grid 21 = .ok (.sipush (-10001), 3) := by decide +kernel
theorem dX8_grid_24 : decode cX8_grid 24 = .ok (.ireturn, 1) := by decide +kernel
theorem dX8_grid_25 : decode cX8_grid 25 = .ok (.aload_n 0, 1) := by decide +kernel
theorem dX8_grid_26 : decode cX8_grid 26 = .ok (.getfield 59, 3) := by decide +kernel
theorem dX8_grid_29 : decode cX8_grid 29 = .ok (.aload_n 0, 1) := by decide +kernel
theorem dX8_grid_30 : decode cX8_grid 30 = .ok (.getfield 17, 3) := by decide +kernel
theorem dX8_grid_33 : decode cX8_grid 33 = .ok (.iload_n 1, 1) := by decide +kernel
theorem dX8_grid_34 : decode cX8_grid 34 = .ok (.aaload, 1) := by decide +kernel
theorem dX8_grid_35 : decode cX8_grid 35 = .ok (.invokevirtual 194, 3) := by decide +kernel
theorem dX8_grid_38 : decode cX8_grid 38 = .ok (.aload_n 0, 1) := by decide +kernel
theorem dX8_grid_39 : decode cX8_grid 39 = .ok (.getfield 59, 3) := by decide +kernel
theorem dX8_grid_42 : decode cX8_grid 42 = .ok (.iload_n 2, 1) := by decide +kernel
theorem dX8_grid_43 : decode cX8_grid 43 = .ok (.iload_n 3, 1) := by decide +kernel
theorem dX8_grid_44 : decode cX8_grid 44 = .ok (.invokevirtual 207, 3) := by decide +kernel
theorem dX8_grid_47 : decode cX8_grid 47 = .ok (.ireturn, 1) := by decide +kernel
theorem dX8_volume_0 : decode cX8_volume 0 = .ok (.iload_n 1, 1) := by decide +kernel
theorem dX8_volume_1 : decode cX8_volume 1 = .ok (.invokestatic 110, 3) := by decide +kernel
theorem dX8_volume_4 : decode cX8_volume 4 = .ok (.ifCond .eq 10, 3) := by decide +kernel
theorem dX8_volume_7 : decode cX8_volume 7 = .ok (.iload_n 2, 1) := by decide +kernel
theorem dX8_volume_8 : decode cX8_volume 8 = .ok (.invokestatic 211, 3) := by decide +kernel
theorem dX8_volume_11 : decode cX8_volume 11 = .ok (.ifCond .ne 5, 3) := by decide +kernel
theorem dX8_volume_14 : decode cX8_volume 14 = .ok (.lconst 0, 1) := by decide +kernel
theorem dX8_volume_15 : decode cX8_volume 15 = .ok (.lreturn, 1) := by decide +kernel
theorem dX8_volume_16 : decode cX8_volume 16 = .ok (.aload_n 0, 1) := by decide +kernel
theorem dX8_volume_17 : decode cX8_volume 17 = .ok (.getfield 59, 3) := by decide +kernel
theorem dX8_volume_20 : decode cX8_volume 20 = .ok (.aload_n 0, 1) := by decide +kernel
theorem dX8_volume_21 : decode cX8_volume 21 = .ok (.getfield 17, 3) := by decide +kernel
theorem dX8_volume_24 : decode cX8_volume 24 = .ok (.iload_n 1, 1) := by decide +kernel
theorem dX8_volume_25 : decode cX8_volume 25 = .ok (.aaload, 1) := by decide +kernel
theorem dX8_volume_26 : decode cX8_volume 26 = .ok (.invokevirtual 194, 3) := by decide +kernel
theorem dX8_volume_29 : decode cX8_volume 29 = .ok (.aload_n 0, 1) := by decide +kernel
theorem dX8_volume_30 : decode cX8_volume 30 = .ok (.getfield 59, 3) := by decide +kernel
theorem dX8_volume_33 : decode cX8_volume 33 = .ok (.iload_n 2, 1) := by decide +kernel
theorem dX8_volume_34 : decode cX8_volume 34 = .ok (.invokevirtual 214, 3) := by decide +kernel
theorem dX8_volume_37 : decode cX8_volume 37 = .ok (.lreturn, 1) := by decide +kernel
theorem dX8_thirds_0 : decode cX8_thirds 0 = .ok (.iload_n 1, 1) := by decide +kernel
theorem dX8_thirds_1 : decode cX8_thirds 1 = .ok (.invokestatic 110, 3) := by decide +kernel
theorem dX8_thirds_4 : decode cX8_thirds 4 = .ok (.ifCond .ne 5, 3) := by decide +kernel
theorem dX8_thirds_7 : decode cX8_thirds 7 = .ok (.iconst (-1), 1) := by decide +kernel
theorem dX8_thirds_8 : decode cX8_thirds 8 = .ok (.ireturn, 1) := by decide +kernel
theorem dX8_thirds_9 : decode cX8_thirds 9 = .ok (.aload_n 0, 1) := by decide +kernel
theorem dX8_thirds_10 : decode cX8_thirds 10 = .ok (.getfield 59, 3) := by decide +kernel
theorem dX8_thirds_13 : decode cX8_thirds 13 = .ok (.aload_n 0, 1) := by decide +kernel
theorem dX8_thirds_14 : decode cX8_thirds 14 = .ok (.getfield 17, 3) := by decide +kernel
theorem dX8_thirds_17 : decode cX8_thirds 17 = .ok (.iload_n 1, 1) := by decide +kernel
theorem dX8_thirds_18 : decode cX8_thirds 18 = .ok (.aaload, 1) := by decide +kernel
theorem dX8_thirds_19 : decode cX8_thirds 19 = .ok (.invokevirtual 194, 3) := by decide +kernel
theorem dX8_thirds_22 : decode cX8_thirds 22 = .ok (.aload_n 0, 1) := by decide +kernel
theorem dX8_thirds_23 : decode cX8_thirds 23 = .ok (.getfield 59, 3) := by decide +kernel
theorem dX8_thirds_26 : decode cX8_thirds 26 = .ok (.invokevirtual 218, 3) := by decide +kernel
theorem dX8_thirds_29 : decode cX8_thirds 29 = .ok (.ireturn, 1) := by decide +kernel
theorem dX8_lines_0 : decode cX8_lines 0 = .ok (.iload_n 1, 1) := by decide +kernel
theorem dX8_lines_1 : decode cX8_lines 1 = .ok (.invokestatic 110, 3) := by decide +kernel
theorem dX8_lines_4 : decode cX8_lines 4 = .ok (.ifCond .eq 10, 3) := by decide +kernel
theorem dX8_lines_7 : decode cX8_lines 7 = .ok (.iload_n 2, 1) := by decide +kernel
theorem dX8_lines_8 : decode cX8_lines 8 = .ok (.invokestatic 211, 3) := by decide +kernel
theorem dX8_lines_11 : decode cX8_lines 11 = .ok (.ifCond .ne 5, 3) := by decide +kernel
theorem dX8_lines_14 : decode cX8_lines 14 = .ok (.iconst (-1), 1) := by decide +kernel
theorem dX8_lines_15 : decode cX8_lines 15 = .ok (.ireturn, 1) := by decide +kernel
theorem dX8_lines_16 : decode cX8_lines 16 = .ok (.aload_n 0, 1) := by decide +kernel
theorem dX8_lines_17 : decode cX8_lines 17 = .ok (.getfield 59, 3) := by decide +kernel
theorem dX8_lines_20 : decode cX8_lines 20 = .ok (.aload_n 0, 1) := by decide +kernel
theorem dX8_lines_21 : decode cX8_lines 21 = .ok (.getfield 17, 3) := by decide +kernel
theorem dX8_lines_24 : decode cX8_lines 24 = .ok (.iload_n 1, 1) := by decide +kernel
theorem dX8_lines_25 : decode cX8_lines 25 = .ok (.aaload, 1) := by decide +kernel
theorem dX8_lines_26 : decode cX8_lines 26 = .ok (.invokevirtual 194, 3) := by decide +kernel
theorem dX8_lines_29 : decode cX8_lines 29 = .ok (.aload_n 0, 1) := by decide +kernel
theorem dX8_lines_30 : decode cX8_lines 30 = .ok (.getfield 52, 3) := by decide +kernel
theorem dX8_lines_33 : decode cX8_lines 33 = .ok (.aload_n 0, 1) := by decide +kernel
theorem dX8_lines_34 : decode cX8_lines 34 = .ok (.getfield 59, 3) := by decide +kernel
theorem dX8_lines_37 : decode cX8_lines 37 = .ok (.iload_n 2, 1) := by decide +kernel
theorem dX8_lines_38 : decode cX8_lines 38 = .ok (.iload_n 3, 1) := by decide +kernel
theorem dX8_lines_39 : decode cX8_lines 39 = .ok (.invokevirtual 221, 3) := by decide +kernel
theorem dX8_lines_42 : decode cX8_lines 42 = .ok (.ireturn, 1) := by decide +kernel
theorem dX8_changed_0 : decode cX8_changed 0 = .ok (.iload_n 1, 1) := by decide +kernel
theorem dX8_changed_1 : decode cX8_changed 1 = .ok (.ifCond .lt 19, 3) := by decide +kernel
theorem dX8_changed_4 : decode cX8_changed 4 = .ok (.iload_n 1, 1) := by decide +kernel
theorem dX8_changed_5 : decode cX8_changed 5 = .ok (.sipush 1000, 3) := by decide +kernel
theorem dX8_changed_8 : decode cX8_changed 8 = .ok (.if_icmp .gt 12, 3) := by decide +kernel
theorem dX8_changed_11 : decode cX8_changed 11 = .ok (.iload_n 2, 1) := by decide +kernel
theorem dX8_changed_12 : decode cX8_changed 12 = .ok (.ifCond .lt 8, 3) := by decide +kernel
theorem dX8_changed_15 : decode cX8_changed 15 = .ok (.iload_n 2, 1) := by decide +kernel
theorem dX8_changed_16 : decode cX8_changed 16 = .ok (.iconst 3, 1) := by decide +kernel
theorem dX8_changed_17 : decode cX8_changed 17 = .ok (.if_icmp .le 6, 3) := by decide +kernel
theorem dX8_changed_20 : decode cX8_changed 20 = .ok (.ldc 225, 2) := by decide +kernel
theorem dX8_changed_22 : decode cX8_changed 22 = .ok (.ireturn, 1) := by decide +kernel
theorem dX8_changed_23 : decode cX8_changed 23 = .ok (.aload_n 0, 1) := by decide +kernel
theorem dX8_changed_24 : decode cX8_changed 24 = .ok (.getfield 59, 3) := by decide +kernel
theorem dX8_changed_27 : decode cX8_changed 27 = .ok (.aload_n 0, 1) := by decide +kernel
theorem dX8_changed_28 : decode cX8_changed 28 = .ok (.getfield 17, 3) := by decide +kernel
theorem dX8_changed_31 : decode cX8_changed 31 = .ok (.iconst 0, 1) := by decide +kernel
theorem dX8_changed_32 : decode cX8_changed 32 = .ok (.aaload, 1) := by decide +kernel
theorem dX8_changed_33 : decode cX8_changed 33 = .ok (.invokevirtual 194, 3) := by decide +kernel
theorem dX8_changed_36 : decode cX8_changed 36 = .ok (.aload_n 0, 1) := by decide +kernel
theorem dX8_changed_37 : decode cX8_changed 37 = .ok (.getfield 63, 3) := by decide +kernel
theorem dX8_changed_40 : decode cX8_changed 40 = .ok (.aload_n 0, 1) := by decide +kernel
theorem dX8_changed_41 : decode cX8_changed 41 = .ok (.getfield 17, 3) := by decide +kernel
theorem dX8_changed_44 : decode cX8_changed 44 = .ok (.iconst 1, 1) := by decide +kernel
theorem dX8_changed_45 : decode cX8_changed 45 = .ok (.aaload, 1) := by decide +kernel
theorem dX8_changed_46 : decode cX8_changed 46 = .ok (.invokevirtual 194, 3) := by decide +kernel
theorem dX8_changed_49 : decode cX8_changed 49 = .ok (.iload_n 2, 1) := by decide +kernel
theorem dX8_changed_50 : decode cX8_changed 50 = .ok (.tableswitch 64 0 2 #[26, 38, 51], 26) := by decide +kernel
theorem dX8_changed_76 : decode cX8_changed 76 = .ok (.aload_n 0, 1) := by decide +kernel
theorem dX8_changed_77 : decode cX8_changed 77 = .ok (.getfield 59, 3) := by decide +kernel
theorem dX8_changed_80 : decode cX8_changed 80 = .ok (.aload_n 0, 1) := by decide +kernel
theorem dX8_changed_81 : decode cX8_changed 81 = .ok (.getfield 63, 3) := by decide +kernel
theorem dX8_changed_84 : decode cX8_changed 84 = .ok (.invokevirtual 226, 3) := by decide +kernel
theorem dX8_changed_87 : decode cX8_changed 87 = .ok (.ireturn, 1) := by decide +kernel
theorem dX8_changed_88 : decode cX8_changed 88 = .ok (.aload_n 0, 1) := by decide +kernel
theorem dX8_changed_89 : decode cX8_changed 89 = .ok (.getfield 59, 3) := by decide +kernel
theorem dX8_changed_92 : decode cX8_changed 92 = .ok (.aload_n 0, 1) := by decide +kernel
theorem dX8_changed_93 : decode cX8_changed 93 = .ok (.getfield 63, 3) := by decide +kernel
theorem dX8_changed_96 : decode cX8_changed 96 = .ok (.iload_n 1, 1) := by decide +kernel
theorem dX8_changed_97 : decode cX8_changed 97 = .ok (.invokevirtual 230, 3) := by decide +kernel
theorem dX8_changed_100 : decode cX8_changed 100 = .ok (.ireturn, 1) := by decide +kernel
theorem dX8_changed_101 : decode cX8_changed 101 = .ok (.aload_n 0, 1) := by decide +kernel
theorem dX8_changed_102 : decode cX8_changed 102 = .ok (.getfield 63, 3) := by decide +kernel
theorem dX8_changed_105 : decode cX8_changed 105 = .ok (.aload_n 0, 1) := by decide +kernel
theorem dX8_changed_106 : decode cX8_changed 106 = .ok (.getfield 59, 3) := by decide +kernel
theorem dX8_changed_109 : decode cX8_changed 109 = .ok (.iload_n 1, 1) := by decide +kernel
theorem dX8_changed_110 : decode cX8_changed 110 = .ok (.invokevirtual 230, 3) := by decide +kernel
theorem dX8_changed_113 : decode cX8_changed 113 = .ok (.ireturn, 1) := by decide +kernel
theorem dX8_changed_114 : decode cX8_changed 114 = .ok (.aload_n 0, 1) := by decide +kernel
theorem dX8_changed_115 : decode cX8_changed 115 = .ok (.getfield 59, 3) := by decide +kernel
theorem dX8_changed_118 : decode cX8_changed 118 = .ok (.aload_n 0, 1) := by decide +kernel
theorem dX8_changed_119 : decode cX8_changed 119 = .ok (.getfield 63, 3) := by decide +kernel
theorem dX8_changed_122 : decode cX8_changed 122 = .ok (.invokevirtual 234, 3) := by decide +kernel
theorem dX8_changed_125 : decode cX8_changed 125 = .ok (.ireturn, 1) := by decide +kernel
theorem dX8_type_0 : decode cX8_type 0 = .ok (.iload_n 3, 1) := by decide +kernel
theorem dX8_type_1 : decode cX8_type 1 = .ok (.iconst 1, 1) := by decide +kernel
theorem dX8_type_2 : decode cX8_type 2 = .ok (.if_icmp .lt 17, 3) := by decide +kernel
theorem dX8_type_5 : decode cX8_type 5 = .ok (.iload_n 3, 1) := by decide +kernel
theorem dX8_type_6 : decode cX8_type 6 = .ok (.bipush 8, 2) := by decide +kernel
theorem dX8_type_8 : decode cX8_type 8 = .ok (.if_icmp .gt 11, 3) := by decide +kernel
theorem dX8_type_11 : decode cX8_type 11 = .ok (.lload_n 1, 1) := by decide +kernel
theorem dX8_type_12 : decode cX8_type 12 = .ok (.iload_n 3, 1) := by decide +kernel
theorem dX8_type_13 : decode cX8_type 13 = .ok (.invokestatic 237, 3) := by decide +kernel
theorem dX8_type_16 : decode cX8_type 16 = .ok (.ifCond .ne 5, 3) := by decide +kernel
theorem dX8_type_19 : decode cX8_type 19 = .ok (.iconst (-1), 1) := by decide +kernel
theorem dX8_type_20 : decode cX8_type 20 = .ok (.ireturn, 1) := by decide +kernel
theorem dX8_type_21 : decode cX8_type 21 = .ok (.aload_n 0, 1) := by decide +kernel
theorem dX8_type_22 : decode cX8_type 22 = .ok (.getfield 24, 3) := by decide +kernel
theorem dX8_type_25 : decode cX8_type 25 = .ok (.getfield 241, 3) := by decide +kernel
theorem dX8_type_28 : decode cX8_type 28 = .ok (.iload_n 3, 1) := by decide +kernel
theorem dX8_type_29 : decode cX8_type 29 = .ok (.iadd, 1) := by decide +kernel
theorem dX8_type_30 : decode cX8_type 30 = .ok (.bipush 80, 2) := by decide +kernel
theorem dX8_type_32 : decode cX8_type 32 = .ok (.if_icmp .le 6, 3) := by decide +kernel
theorem dX8_type_35 : decode cX8_type 35 = .ok (.bipush (-3), 2) := by decide +kernel
theorem dX8_type_37 : decode cX8_type 37 = .ok (.ireturn, 1) := by decide +kernel
theorem dX8_type_38 : decode cX8_type 38 = .ok (.aload_n 0, 1) := by decide +kernel
theorem dX8_type_39 : decode cX8_type 39 = .ok (.getfield 24, 3) := by decide +kernel
theorem dX8_type_42 : decode cX8_type 42 = .ok (.lload_n 1, 1) := by decide +kernel
theorem dX8_type_43 : decode cX8_type 43 = .ok (.iload_n 3, 1) := by decide +kernel
theorem dX8_type_44 : decode cX8_type 44 = .ok (.invokevirtual 242, 3) := by decide +kernel
theorem dX8_type_47 : decode cX8_type 47 = .ok (.aload_n 0, 1) := by decide +kernel
theorem dX8_type_48 : decode cX8_type 48 = .ok (.getfield 24, 3) := by decide +kernel
theorem dX8_type_51 : decode cX8_type 51 = .ok (.getfield 241, 3) := by decide +kernel
theorem dX8_type_54 : decode cX8_type 54 = .ok (.ireturn, 1) := by decide +kernel
theorem dX8_job_0 : decode cX8_job 0 = .ok (.iload_n 1, 1) := by decide +kernel
theorem dX8_job_1 : decode cX8_job 1 = .ok (.invokestatic 110, 3) := by decide +kernel
theorem dX8_job_4 : decode cX8_job 4 = .ok (.ifCond .ne 5, 3) := by decide +kernel
theorem dX8_job_7 : decode cX8_job 7 = .ok (.iconst (-1), 1) := by decide +kernel
theorem dX8_job_8 : decode cX8_job 8 = .ok (.ireturn, 1) := by decide +kernel
theorem dX8_job_9 : decode cX8_job 9 = .ok (.aload_n 0, 1) := by decide +kernel
theorem dX8_job_10 : decode cX8_job 10 = .ok (.getfield 31, 3) := by decide +kernel
theorem dX8_job_13 : decode cX8_job 13 = .ok (.aload_n 0, 1) := by decide +kernel
theorem dX8_job_14 : decode cX8_job 14 = .ok (.getfield 24, 3) := by decide +kernel
theorem dX8_job_17 : decode cX8_job 17 = .ok (.invokevirtual 246, 3) := by decide +kernel
theorem dX8_job_20 : decode cX8_job 20 = .ok (.istore_n 2, 1) := by decide +kernel
theorem dX8_job_21 : decode cX8_job 21 = .ok (.aload_n 0, 1) := by decide +kernel
theorem dX8_job_22 : decode cX8_job 22 = .ok (.getfield 24, 3) := by decide +kernel
theorem dX8_job_25 : decode cX8_job 25 = .ok (.iconst 0, 1) := by decide +kernel
theorem dX8_job_26 : decode cX8_job 26 = .ok (.putfield 241, 3) := by decide +kernel
theorem dX8_job_29 : decode cX8_job 29 = .ok (.iload_n 2, 1) := by decide +kernel
theorem dX8_job_30 : decode cX8_job 30 = .ok (.ifCond .ge 5, 3) := by decide +kernel
theorem dX8_job_33 : decode cX8_job 33 = .ok (.iload_n 2, 1) := by decide +kernel
theorem dX8_job_34 : decode cX8_job 34 = .ok (.ireturn, 1) := by decide +kernel
theorem dX8_job_35 : decode cX8_job 35 = .ok (.iconst 0, 1) := by decide +kernel
theorem dX8_job_36 : decode cX8_job 36 = .ok (.istore_n 3, 1) := by decide +kernel
theorem dX8_job_37 : decode cX8_job 37 = .ok (.iload_n 3, 1) := by decide +kernel
theorem dX8_job_38 : decode cX8_job 38 = .ok (.aload_n 0, 1) := by decide +kernel
theorem dX8_job_39 : decode cX8_job 39 = .ok (.getfield 31, 3) := by decide +kernel
theorem dX8_job_42 : decode cX8_job 42 = .ok (.getfield 250, 3) := by decide +kernel
theorem dX8_job_45 : decode cX8_job 45 = .ok (.if_icmp .ge 23, 3) := by decide +kernel
theorem dX8_job_48 : decode cX8_job 48 = .ok (.aload_n 0, 1) := by decide +kernel
theorem dX8_job_49 : decode cX8_job 49 = .ok (.aload_n 0, 1) := by decide +kernel
theorem dX8_job_50 : decode cX8_job 50 = .ok (.getfield 17, 3) := by decide +kernel
theorem dX8_job_53 : decode cX8_job 53 = .ok (.iload_n 1, 1) := by decide +kernel
theorem dX8_job_54 : decode cX8_job 54 = .ok (.aaload, 1) := by decide +kernel
theorem dX8_job_55 : decode cX8_job 55 = .ok (.iload_n 3, 1) := by decide +kernel
theorem dX8_job_56 : decode cX8_job 56 = .ok (.invokevirtual 253, 3) := by decide +kernel
theorem dX8_job_59 : decode cX8_job 59 = .ok (.ifCond .lt 9, 3) := by decide +kernel
theorem dX8_job_62 : decode cX8_job 62 = .ok (.iinc 3 1, 3) := by decide +kernel
theorem dX8_job_65 : decode cX8_job 65 = .ok (.goto (-28), 3) := by decide +kernel
theorem dX8_job_68 : decode cX8_job 68 = .ok (.iload_n 3, 1) := by decide +kernel
theorem dX8_job_69 : decode cX8_job 69 = .ok (.ireturn, 1) := by decide +kernel
theorem dX8_doStep_0 : decode cX8_doStep 0 = .ok (.aload_n 0, 1) := by decide +kernel
theorem dX8_doStep_1 : decode cX8_doStep 1 = .ok (.getfield 31, 3) := by decide +kernel
theorem dX8_doStep_4 : decode cX8_doStep 4 = .ok (.getfield 257, 3) := by decide +kernel
theorem dX8_doStep_7 : decode cX8_doStep 7 = .ok (.iload_n 2, 1) := by decide +kernel
theorem dX8_doStep_8 : decode cX8_doStep 8 = .ok (.iaload, 1) := by decide +kernel
theorem dX8_doStep_9 : decode cX8_doStep 9 = .ok (.istore_n 3, 1) := by decide +kernel
theorem dX8_doStep_10 : decode cX8_doStep 10 = .ok (.aload_n 0, 1) := by decide +kernel
theorem dX8_doStep_11 : decode cX8_doStep 11 = .ok (.getfield 31, 3) := by decide +kernel
theorem dX8_doStep_14 : decode cX8_doStep 14 = .ok (.getfield 260, 3) := by decide +kernel
theorem dX8_doStep_17 : decode cX8_doStep 17 = .ok (.iload_n 2, 1) := by decide +kernel
theorem dX8_doStep_18 : decode cX8_doStep 18 = .ok (.iaload, 1) := by decide +kernel
theorem dX8_doStep_19 : decode cX8_doStep 19 = .ok (.istore 4, 2) := by decide +kernel
theorem dX8_doStep_21 : decode cX8_doStep 21 = .ok (.aload_n 0, 1) := by decide +kernel
theorem dX8_doStep_22 : decode cX8_doStep 22 = .ok (.getfield 31, 3) := by decide +kernel
theorem dX8_doStep_25 : decode cX8_doStep 25 = .ok (.getfield 263, 3) := by decide +kernel
theorem dX8_doStep_28 : decode cX8_doStep 28 = .ok (.iload_n 2, 1) := by decide +kernel
theorem dX8_doStep_29 : decode cX8_doStep 29 = .ok (.caload, 1) := by decide +kernel
theorem dX8_doStep_30 : decode cX8_doStep 30 = .ok (.istore 5, 2) := by decide +kernel
theorem dX8_doStep_32 : decode cX8_doStep 32 = .ok (.iload 5, 2) := by decide +kernel
theorem dX8_doStep_34 : decode cX8_doStep 34 = .ok (.bipush 70, 2) := by decide +kernel
theorem dX8_doStep_36 : decode cX8_doStep 36 = .ok (.if_icmp .ne 12, 3) := by decide +kernel
theorem dX8_doStep_39 : decode cX8_doStep 39 = .ok (.aload_n 0, 1) := by decide +kernel
theorem dX8_doStep_40 : decode cX8_doStep 40 = .ok (.getfield 38, 3) := by decide +kernel
theorem dX8_doStep_43 : decode cX8_doStep 43 = .ok (.aload_n 1, 1) := by decide +kernel
theorem dX8_doStep_44 : decode cX8_doStep 44 = .ok (.invokevirtual 168, 3) := by decide +kernel
theorem dX8_doStep_47 : decode cX8_doStep 47 = .ok (.ireturn, 1) := by decide +kernel
theorem dX8_doStep_48 : decode cX8_doStep 48 = .ok (.iload 5, 2) := by decide +kernel
theorem dX8_doStep_50 : decode cX8_doStep 50 = .ok (.bipush 71, 2) := by decide +kernel
theorem dX8_doStep_52 : decode cX8_doStep 52 = .ok (.if_icmp .ne 20, 3) := by decide +kernel
theorem dX8_doStep_55 : decode cX8_doStep 55 = .ok (.aload_n 1, 1) := by decide +kernel
theorem dX8_doStep_56 : decode cX8_doStep 56 = .ok (.iload_n 3, 1) := by decide +kernel
theorem dX8_doStep_57 : decode cX8_doStep 57 = .ok (.iload 4, 2) := by decide +kernel
theorem dX8_doStep_59 : decode cX8_doStep 59 = .ok (.aload_n 0, 1) := by decide +kernel
theorem dX8_doStep_60 : decode cX8_doStep 60 = .ok (.getfield 31, 3) := by decide +kernel
theorem dX8_doStep_63 : decode cX8_doStep 63 = .ok (.getfield 267, 3) := by decide +kernel
theorem dX8_doStep_66 : decode cX8_doStep 66 = .ok (.iload_n 2, 1) := by decide +kernel
theorem dX8_doStep_67 : decode cX8_doStep 67 = .ok (.iaload, 1) := by decide +kernel
theorem dX8_doStep_68 : decode cX8_doStep 68 = .ok (.invokevirtual 182, 3) := by decide +kernel
theorem dX8_doStep_71 : decode cX8_doStep 71 = .ok (.ireturn, 1) := by decide +kernel
theorem dX8_doStep_72 : decode cX8_doStep 72 = .ok (.aload_n 0, 1) := by decide +kernel
theorem dX8_doStep_73 : decode cX8_doStep 73 = .ok (.getfield 45, 3) := by decide +kernel
theorem dX8_doStep_76 : decode cX8_doStep 76 = .ok (.aload_n 1, 1) := by decide +kernel
theorem dX8_doStep_77 : decode cX8_doStep 77 = .ok (.iload_n 3, 1) := by decide +kernel
theorem dX8_doStep_78 : decode cX8_doStep 78 = .ok (.iload 4, 2) := by decide +kernel
theorem dX8_doStep_80 : decode cX8_doStep 80 = .ok (.invokevirtual 186, 3) := by decide +kernel
theorem dX8_doStep_83 : decode cX8_doStep 83 = .ok (.ireturn, 1) := by decide +kernel
theorem dX8_isYear_0 : decode cX8_isYear 0 = .ok (.iload_n 0, 1) := by decide +kernel
theorem dX8_isYear_1 : decode cX8_isYear 1 = .ok (.ifCond .lt 12, 3) := by decide +kernel
theorem dX8_isYear_4 : decode cX8_isYear 4 = .ok (.iload_n 0, 1) := by decide +kernel
theorem dX8_isYear_5 : decode cX8_isYear 5 = .ok (.iconst 2, 1) := by decide +kernel
theorem dX8_isYear_6 : decode cX8_isYear 6 = .ok (.if_icmp .ge 7, 3) := by decide +kernel
theorem dX8_isYear_9 : decode cX8_isYear 9 = .ok (.iconst 1, 1) := by decide +kernel
theorem dX8_isYear_10 : decode cX8_isYear 10 = .ok (.goto 4, 3) := by decide +kernel
theorem dX8_isYear_13 : decode cX8_isYear 13 = .ok (.iconst 0, 1) := by decide +kernel
theorem dX8_isYear_14 : decode cX8_isYear 14 = .ok (.ireturn, 1) := by decide +kernel
theorem dX8_isSheet_0 : decode cX8_isSheet 0 = .ok (.iload_n 0, 1) := by decide +kernel
theorem dX8_isSheet_1 : decode cX8_isSheet 1 = .ok (.ifCond .lt 12, 3) := by decide +kernel
theorem dX8_isSheet_4 : decode cX8_isSheet 4 = .ok (.iload_n 0, 1) := by decide +kernel
theorem dX8_isSheet_5 : decode cX8_isSheet 5 = .ok (.iconst 4, 1) := by decide +kernel
theorem dX8_isSheet_6 : decode cX8_isSheet 6 = .ok (.if_icmp .ge 7, 3) := by decide +kernel
theorem dX8_isSheet_9 : decode cX8_isSheet 9 = .ok (.iconst 1, 1) := by decide +kernel
theorem dX8_isSheet_10 : decode cX8_isSheet 10 = .ok (.goto 4, 3) := by decide +kernel
theorem dX8_isSheet_13 : decode cX8_isSheet 13 = .ok (.iconst 0, 1) := by decide +kernel
theorem dX8_isSheet_14 : decode cX8_isSheet 14 = .ok (.ireturn, 1) := by decide +kernel
theorem dX8_isLane_0 : decode cX8_isLane 0 = .ok (.iload_n 0, 1) := by decide +kernel
theorem dX8_isLane_1 : decode cX8_isLane 1 = .ok (.ifCond .lt 12, 3) := by decide +kernel
theorem dX8_isLane_4 : decode cX8_isLane 4 = .ok (.iload_n 0, 1) := by decide +kernel
theorem dX8_isLane_5 : decode cX8_isLane 5 = .ok (.iconst 3, 1) := by decide +kernel
theorem dX8_isLane_6 : decode cX8_isLane 6 = .ok (.if_icmp .ge 7, 3) := by decide +kernel
theorem dX8_isLane_9 : decode cX8_isLane 9 = .ok (.iconst 1, 1) := by decide +kernel
theorem dX8_isLane_10 : decode cX8_isLane 10 = .ok (.goto 4, 3) := by decide +kernel
theorem dX8_isLane_13 : decode cX8_isLane 13 = .ok (.iconst 0, 1) := by decide +kernel
theorem dX8_isLane_14 : decode cX8_isLane 14 = .ok (.ireturn, 1) := by decide +kernel
theorem dX8_isSpan_0 : decode cX8_isSpan 0 = .ok (.iload_n 0, 1) := by decide +kernel
theorem dX8_isSpan_1 : decode cX8_isSpan 1 = .ok (.ifCond .lt 18, 3) := by decide +kernel
theorem dX8_isSpan_4 : decode cX8_isSpan 4 = .ok (.iload_n 0, 1) := by decide +kernel
theorem dX8_isSpan_5 : decode cX8_isSpan 5 = .ok (.iload_n 1, 1) := by decide +kernel
theorem dX8_isSpan_6 : decode cX8_isSpan 6 = .ok (.if_icmp .gt 13, 3) := by decide +kernel
theorem dX8_isSpan_9 : decode cX8_isSpan 9 = .ok (.iload_n 1, 1) := by decide +kernel
theorem dX8_isSpan_10 : decode cX8_isSpan 10 = .ok (.bipush 63, 2) := by decide +kernel
theorem dX8_isSpan_12 : decode cX8_isSpan 12 = .ok (.if_icmp .gt 7, 3) := by decide +kernel
theorem dX8_isSpan_15 : decode cX8_isSpan 15 = .ok (.iconst 1, 1) := by decide +kernel
theorem dX8_isSpan_16 : decode cX8_isSpan 16 = .ok (.goto 4, 3) := by decide +kernel
theorem dX8_isSpan_19 : decode cX8_isSpan 19 = .ok (.iconst 0, 1) := by decide +kernel
theorem dX8_isSpan_20 : decode cX8_isSpan 20 = .ok (.ireturn, 1) := by decide +kernel
theorem dX8_isSquare_0 : decode cX8_isSquare 0 = .ok (.iload_n 0, 1) := by decide +kernel
theorem dX8_isSquare_1 : decode cX8_isSquare 1 = .ok (.ifCond .lt 13, 3) := by decide +kernel
theorem dX8_isSquare_4 : decode cX8_isSquare 4 = .ok (.iload_n 0, 1) := by decide +kernel
theorem dX8_isSquare_5 : decode cX8_isSquare 5 = .ok (.bipush 16, 2) := by decide +kernel
theorem dX8_isSquare_7 : decode cX8_isSquare 7 = .ok (.if_icmp .ge 7, 3) := by decide +kernel
theorem dX8_isSquare_10 : decode cX8_isSquare 10 = .ok (.iconst 1, 1) := by decide +kernel
theorem dX8_isSquare_11 : decode cX8_isSquare 11 = .ok (.goto 4, 3) := by decide +kernel
theorem dX8_isSquare_14 : decode cX8_isSquare 14 = .ok (.iconst 0, 1) := by decide +kernel
theorem dX8_isSquare_15 : decode cX8_isSquare 15 = .ok (.ireturn, 1) := by decide +kernel
theorem dX8_isLevel_0 : decode cX8_isLevel 0 = .ok (.iload_n 0, 1) := by decide +kernel
theorem dX8_isLevel_1 : decode cX8_isLevel 1 = .ok (.sipush (-10000), 3) := by decide +kernel
theorem dX8_isLevel_4 : decode cX8_isLevel 4 = .ok (.if_icmp .lt 14, 3) := by decide +kernel
theorem dX8_isLevel_7 : decode cX8_isLevel 7 = .ok (.iload_n 0, 1) := by decide +kernel
theorem dX8_isLevel_8 : decode cX8_isLevel 8 = .ok (.sipush 10000, 3) := by decide +kernel
theorem dX8_isLevel_11 : decode cX8_isLevel 11 = .ok (.if_icmp .gt 7, 3) := by decide +kernel
theorem dX8_isLevel_14 : decode cX8_isLevel 14 = .ok (.iconst 1, 1) := by decide +kernel
theorem dX8_isLevel_15 : decode cX8_isLevel 15 = .ok (.goto 4, 3) := by decide +kernel
theorem dX8_isLevel_18 : decode cX8_isLevel 18 = .ok (.iconst 0, 1) := by decide +kernel
theorem dX8_isLevel_19 : decode cX8_isLevel 19 = .ok (.ireturn, 1) := by decide +kernel
theorem dX8_tileOf_0 : decode cX8_tileOf 0 = .ok (.iload_n 0, 1) := by decide +kernel
theorem dX8_tileOf_1 : decode cX8_tileOf 1 = .ok (.bipush 16, 2) := by decide +kernel
theorem dX8_tileOf_3 : decode cX8_tileOf 3 = .ok (.idiv, 1) := by decide +kernel
theorem dX8_tileOf_4 : decode cX8_tileOf 4 = .ok (.iconst 4, 1) := by decide +kernel
theorem dX8_tileOf_5 : decode cX8_tileOf 5 = .ok (.iload_n 1, 1) := by decide +kernel
theorem dX8_tileOf_6 : decode cX8_tileOf 6 = .ok (.bipush 16, 2) := by decide +kernel
theorem dX8_tileOf_8 : decode cX8_tileOf 8 = .ok (.idiv, 1) := by decide +kernel
theorem dX8_tileOf_9 : decode cX8_tileOf 9 = .ok (.imul, 1) := by decide +kernel
theorem dX8_tileOf_10 : decode cX8_tileOf 10 = .ok (.iadd, 1) := by decide +kernel
theorem dX8_tileOf_11 : decode cX8_tileOf 11 = .ok (.ireturn, 1) := by decide +kernel
theorem dJ9_floorDiv_f86c9_0 : decode cJ9_floorDiv_f86c9 0 = .ok (.lload_n 0, 1) := by decide +kernel
theorem dJ9_floorDiv_f86c9_1 : decode cJ9_floorDiv_f86c9 1 = .ok (.lload_n 2, 1) := by decide +kernel
theorem dJ9_floorDiv_f86c9_2 : decode cJ9_floorDiv_f86c9 2 = .ok (.ldiv, 1) := by decide +kernel
theorem dJ9_floorDiv_f86c9_3 : decode cJ9_floorDiv_f86c9 3 = .ok (.lstore 4, 2) := by decide +kernel
theorem dJ9_floorDiv_f86c9_5 : decode cJ9_floorDiv_f86c9 5 = .ok (.lload_n 0, 1) := by decide +kernel
theorem dJ9_floorDiv_f86c9_6 : decode cJ9_floorDiv_f86c9 6 = .ok (.lload_n 2, 1) := by decide +kernel
theorem dJ9_floorDiv_f86c9_7 : decode cJ9_floorDiv_f86c9 7 = .ok (.lxor, 1) := by decide +kernel
theorem dJ9_floorDiv_f86c9_8 : decode cJ9_floorDiv_f86c9 8 = .ok (.lconst 0, 1) := by decide +kernel
theorem dJ9_floorDiv_f86c9_9 : decode cJ9_floorDiv_f86c9 9 = .ok (.lcmp, 1) := by decide +kernel
theorem dJ9_floorDiv_f86c9_10 : decode cJ9_floorDiv_f86c9 10 = .ok (.ifCond .ge 17, 3) := by decide +kernel
theorem dJ9_floorDiv_f86c9_13 : decode cJ9_floorDiv_f86c9 13 = .ok (.lload 4, 2) := by decide +kernel
theorem dJ9_floorDiv_f86c9_15 : decode cJ9_floorDiv_f86c9 15 = .ok (.lload_n 2, 1) := by decide +kernel
theorem dJ9_floorDiv_f86c9_16 : decode cJ9_floorDiv_f86c9 16 = .ok (.lmul, 1) := by decide +kernel
theorem dJ9_floorDiv_f86c9_17 : decode cJ9_floorDiv_f86c9 17 = .ok (.lload_n 0, 1) := by decide +kernel
theorem dJ9_floorDiv_f86c9_18 : decode cJ9_floorDiv_f86c9 18 = .ok (.lcmp, 1) := by decide +kernel
theorem dJ9_floorDiv_f86c9_19 : decode cJ9_floorDiv_f86c9 19 = .ok (.ifCond .eq 8, 3) := by decide +kernel
theorem dJ9_floorDiv_f86c9_22 : decode cJ9_floorDiv_f86c9 22 = .ok (.lload 4, 2) := by decide +kernel
theorem dJ9_floorDiv_f86c9_24 : decode cJ9_floorDiv_f86c9 24 = .ok (.lconst 1, 1) := by decide +kernel
theorem dJ9_floorDiv_f86c9_25 : decode cJ9_floorDiv_f86c9 25 = .ok (.lsub, 1) := by decide +kernel
theorem dJ9_floorDiv_f86c9_26 : decode cJ9_floorDiv_f86c9 26 = .ok (.lreturn, 1) := by decide +kernel
theorem dJ9_floorDiv_f86c9_27 : decode cJ9_floorDiv_f86c9 27 = .ok (.lload 4, 2) := by decide +kernel
theorem dJ9_floorDiv_f86c9_29 : decode cJ9_floorDiv_f86c9 29 = .ok (.lreturn, 1) := by decide +kernel
theorem dJ9_abs_067f4_0 : decode cJ9_abs_067f4 0 = .ok (.lload_n 0, 1) := by decide +kernel
theorem dJ9_abs_067f4_1 : decode cJ9_abs_067f4 1 = .ok (.lconst 0, 1) := by decide +kernel
theorem dJ9_abs_067f4_2 : decode cJ9_abs_067f4 2 = .ok (.lcmp, 1) := by decide +kernel
theorem dJ9_abs_067f4_3 : decode cJ9_abs_067f4 3 = .ok (.ifCond .ge 8, 3) := by decide +kernel
theorem dJ9_abs_067f4_6 : decode cJ9_abs_067f4 6 = .ok (.lload_n 0, 1) := by decide +kernel
theorem dJ9_abs_067f4_7 : decode cJ9_abs_067f4 7 = .ok (.lneg, 1) := by decide +kernel
theorem dJ9_abs_067f4_8 : decode cJ9_abs_067f4 8 = .ok (.goto 4, 3) := by decide +kernel
theorem dJ9_abs_067f4_11 : decode cJ9_abs_067f4 11 = .ok (.lload_n 0, 1) := by decide +kernel
theorem dJ9_abs_067f4_12 : decode cJ9_abs_067f4 12 = .ok (.lreturn, 1) := by decide +kernel
theorem dJ9_min_7cf53_0 : decode cJ9_min_7cf53 0 = .ok (.iload_n 0, 1) := by decide +kernel
theorem dJ9_min_7cf53_1 : decode cJ9_min_7cf53 1 = .ok (.iload_n 1, 1) := by decide +kernel
theorem dJ9_min_7cf53_2 : decode cJ9_min_7cf53 2 = .ok (.if_icmp .gt 7, 3) := by decide +kernel
theorem dJ9_min_7cf53_5 : decode cJ9_min_7cf53 5 = .ok (.iload_n 0, 1) := by decide +kernel
theorem dJ9_min_7cf53_6 : decode cJ9_min_7cf53 6 = .ok (.goto 4, 3) := by decide +kernel
theorem dJ9_min_7cf53_9 : decode cJ9_min_7cf53 9 = .ok (.iload_n 1, 1) := by decide +kernel
theorem dJ9_min_7cf53_10 : decode cJ9_min_7cf53 10 = .ok (.ireturn, 1) := by decide +kernel
theorem dJ7_fill_d0a16_0 : decode cJ7_fill_d0a16 0 = .ok (.iconst 0, 1) := by decide +kernel
theorem dJ7_fill_d0a16_1 : decode cJ7_fill_d0a16 1 = .ok (.istore_n 3, 1) := by decide +kernel
theorem dJ7_fill_d0a16_2 : decode cJ7_fill_d0a16 2 = .ok (.aload_n 0, 1) := by decide +kernel
theorem dJ7_fill_d0a16_3 : decode cJ7_fill_d0a16 3 = .ok (.arraylength, 1) := by decide +kernel
theorem dJ7_fill_d0a16_4 : decode cJ7_fill_d0a16 4 = .ok (.istore 4, 2) := by decide +kernel
theorem dJ7_fill_d0a16_6 : decode cJ7_fill_d0a16 6 = .ok (.iload_n 3, 1) := by decide +kernel
theorem dJ7_fill_d0a16_7 : decode cJ7_fill_d0a16 7 = .ok (.iload 4, 2) := by decide +kernel
theorem dJ7_fill_d0a16_9 : decode cJ7_fill_d0a16 9 = .ok (.if_icmp .ge 13, 3) := by decide +kernel
theorem dJ7_fill_d0a16_12 : decode cJ7_fill_d0a16 12 = .ok (.aload_n 0, 1) := by decide +kernel
theorem dJ7_fill_d0a16_13 : decode cJ7_fill_d0a16 13 = .ok (.iload_n 3, 1) := by decide +kernel
theorem dJ7_fill_d0a16_14 : decode cJ7_fill_d0a16 14 = .ok (.lload_n 1, 1) := by decide +kernel
theorem dJ7_fill_d0a16_15 : decode cJ7_fill_d0a16 15 = .ok (.lastore, 1) := by decide +kernel
theorem dJ7_fill_d0a16_16 : decode cJ7_fill_d0a16 16 = .ok (.iinc 3 1, 3) := by decide +kernel
theorem dJ7_fill_d0a16_19 : decode cJ7_fill_d0a16 19 = .ok (.goto (-13), 3) := by decide +kernel
theorem dJ7_fill_d0a16_22 : decode cJ7_fill_d0a16 22 = .ok (.return_, 1) := by decide +kernel
theorem dJ7_fill_53178_0 : decode cJ7_fill_53178 0 = .ok (.iconst 0, 1) := by decide +kernel
theorem dJ7_fill_53178_1 : decode cJ7_fill_53178 1 = .ok (.istore_n 2, 1) := by decide +kernel
theorem dJ7_fill_53178_2 : decode cJ7_fill_53178 2 = .ok (.aload_n 0, 1) := by decide +kernel
theorem dJ7_fill_53178_3 : decode cJ7_fill_53178 3 = .ok (.arraylength, 1) := by decide +kernel
theorem dJ7_fill_53178_4 : decode cJ7_fill_53178 4 = .ok (.istore_n 3, 1) := by decide +kernel
theorem dJ7_fill_53178_5 : decode cJ7_fill_53178 5 = .ok (.iload_n 2, 1) := by decide +kernel
theorem dJ7_fill_53178_6 : decode cJ7_fill_53178 6 = .ok (.iload_n 3, 1) := by decide +kernel
theorem dJ7_fill_53178_7 : decode cJ7_fill_53178 7 = .ok (.if_icmp .ge 13, 3) := by decide +kernel
theorem dJ7_fill_53178_10 : decode cJ7_fill_53178 10 = .ok (.aload_n 0, 1) := by decide +kernel
theorem dJ7_fill_53178_11 : decode cJ7_fill_53178 11 = .ok (.iload_n 2, 1) := by decide +kernel
theorem dJ7_fill_53178_12 : decode cJ7_fill_53178 12 = .ok (.iload_n 1, 1) := by decide +kernel
theorem dJ7_fill_53178_13 : decode cJ7_fill_53178 13 = .ok (.iastore, 1) := by decide +kernel
theorem dJ7_fill_53178_14 : decode cJ7_fill_53178 14 = .ok (.iinc 2 1, 3) := by decide +kernel
theorem dJ7_fill_53178_17 : decode cJ7_fill_53178 17 = .ok (.goto (-12), 3) := by decide +kernel
theorem dJ7_fill_53178_20 : decode cJ7_fill_53178 20 = .ok (.return_, 1) := by decide +kernel
