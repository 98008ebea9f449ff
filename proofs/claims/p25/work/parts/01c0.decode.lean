theorem dX0_init_0 : decode cX0_init 0 = .ok (.aload_n 0, 1) := by decide +kernel
theorem dX0_init_1 : decode cX0_init 1 = .ok (.invokespecial 3, 3) := by decide +kernel
theorem dX0_init_4 : decode cX0_init 4 = .ok (.aload_n 0, 1) := by decide +kernel
theorem dX0_init_5 : decode cX0_init 5 = .ok (.iconst 4, 1) := by decide +kernel
theorem dX0_init_6 : decode cX0_init 6 = .ok (.newarray .int, 2) := by decide +kernel
theorem dX0_init_8 : decode cX0_init 8 = .ok (.putfield 9, 3) := by decide +kernel
theorem dX0_init_11 : decode cX0_init 11 = .ok (.aload_n 0, 1) := by decide +kernel
theorem dX0_init_12 : decode cX0_init 12 = .ok (.iconst 3, 1) := by decide +kernel
theorem dX0_init_13 : decode cX0_init 13 = .ok (.iconst 3, 1) := by decide +kernel
theorem dX0_init_14 : decode cX0_init 14 = .ok (.multianewarray 15 2, 4) := by decide +kernel
theorem dX0_init_18 : decode cX0_init 18 = .ok (.putfield 17, 3) := by decide +kernel
theorem dX0_init_21 : decode cX0_init 21 = .ok (.aload_n 0, 1) := by decide +kernel
theorem dX0_init_22 : decode cX0_init 22 = .ok (.iconst 3, 1) := by decide +kernel
theorem dX0_init_23 : decode cX0_init 23 = .ok (.newarray .long, 2) := by decide +kernel
theorem dX0_init_25 : decode cX0_init 25 = .ok (.putfield 20, 3) := by decide +kernel
theorem dX0_init_28 : decode cX0_init 28 = .ok (.aload_n 0, 1) := by decide +kernel
theorem dX0_init_29 : decode cX0_init 29 = .ok (.iconst 3, 1) := by decide +kernel
theorem dX0_init_30 : decode cX0_init 30 = .ok (.newarray .int, 2) := by decide +kernel
theorem dX0_init_32 : decode cX0_init 32 = .ok (.putfield 24, 3) := by decide +kernel
theorem dX0_init_35 : decode cX0_init 35 = .ok (.return_, 1) := by decide +kernel
theorem dX1_init_0 : decode cX1_init 0 = .ok (.aload_n 0, 1) := by decide +kernel
theorem dX1_init_1 : decode cX1_init 1 = .ok (.invokespecial 3, 3) := by decide +kernel
theorem dX1_init_4 : decode cX1_init 4 = .ok (.aload_n 0, 1) := by decide +kernel
theorem dX1_init_5 : decode cX1_init 5 = .ok (.sipush 256, 3) := by decide +kernel
theorem dX1_init_8 : decode cX1_init 8 = .ok (.newarray .int, 2) := by decide +kernel
theorem dX1_init_10 : decode cX1_init 10 = .ok (.putfield 9, 3) := by decide +kernel
theorem dX1_init_13 : decode cX1_init 13 = .ok (.return_, 1) := by decide +kernel
theorem dX1_measure_0 : decode cX1_measure 0 = .ok (.aload_n 0, 1) := by decide +kernel
theorem dX1_measure_1 : decode cX1_measure 1 = .ok (.getfield 9, 3) := by decide +kernel
theorem dX1_measure_4 : decode cX1_measure 4 = .ok (.ldc 15, 2) := by decide +kernel
theorem dX1_measure_6 : decode cX1_measure 6 = .ok (.invokestatic 16, 3) := by decide +kernel
theorem dX1_measure_9 : decode cX1_measure 9 = .ok (.iconst 0, 1) := by decide +kernel
theorem dX1_measure_10 : decode cX1_measure 10 = .ok (.istore_n 2, 1) := by decide +kernel
theorem dX1_measure_11 : decode cX1_measure 11 = .ok (.iload_n 2, 1) := by decide +kernel
theorem dX1_measure_12 : decode cX1_measure 12 = .ok (.aload_n 1, 1) := by decide +kernel
theorem dX1_measure_13 : decode cX1_measure 13 = .ok (.getfield 22, 3) := by decide +kernel
theorem dX1_measure_16 : decode cX1_measure 16 = .ok (.if_icmp .ge 45, 3) := by decide +kernel
theorem dX1_measure_19 : decode cX1_measure 19 = .ok (.aload_n 1, 1) := by decide +kernel
theorem dX1_measure_20 : decode cX1_measure 20 = .ok (.getfield 28, 3) := by decide +kernel
theorem dX1_measure_23 : decode cX1_measure 23 = .ok (.iload_n 2, 1) := by decide +kernel
theorem dX1_measure_24 : decode cX1_measure 24 = .ok (.iaload, 1) := by decide +kernel
theorem dX1_measure_25 : decode cX1_measure 25 = .ok (.iconst 1, 1) := by decide +kernel
theorem dX1_measure_26 : decode cX1_measure 26 = .ok (.if_icmp .ne 29, 3) := by decide +kernel
theorem dX1_measure_29 : decode cX1_measure 29 = .ok (.aload_n 1, 1) := by decide +kernel
theorem dX1_measure_30 : decode cX1_measure 30 = .ok (.iload_n 2, 1) := by decide +kernel
theorem dX1_measure_31 : decode cX1_measure 31 = .ok (.invokevirtual 31, 3) := by decide +kernel
theorem dX1_measure_34 : decode cX1_measure 34 = .ok (.istore_n 3, 1) := by decide +kernel
theorem dX1_measure_35 : decode cX1_measure 35 = .ok (.aload_n 0, 1) := by decide +kernel
theorem dX1_measure_36 : decode cX1_measure 36 = .ok (.getfield 9, 3) := by decide +kernel
theorem dX1_measure_39 : decode cX1_measure 39 = .ok (.iload_n 3, 1) := by decide +kernel
theorem dX1_measure_40 : decode cX1_measure 40 = .ok (.aload_n 0, 1) := by decide +kernel
theorem dX1_measure_41 : decode cX1_measure 41 = .ok (.getfield 9, 3) := by decide +kernel
theorem dX1_measure_44 : decode cX1_measure 44 = .ok (.iload_n 3, 1) := by decide +kernel
theorem dX1_measure_45 : decode cX1_measure 45 = .ok (.iaload, 1) := by decide +kernel
theorem dX1_measure_46 : decode cX1_measure 46 = .ok (.aload_n 1, 1) := by decide +kernel
theorem dX1_measure_47 : decode cX1_measure 47 = .ok (.iload_n 2, 1) := by decide +kernel
theorem dX1_measure_48 : decode cX1_measure 48 = .ok (.invokevirtual 35, 3) := by decide +kernel
theorem dX1_measure_51 : decode cX1_measure 51 = .ok (.invokestatic 38, 3) := by decide +kernel
theorem dX1_measure_54 : decode cX1_measure 54 = .ok (.iastore, 1) := by decide +kernel
theorem dX1_measure_55 : decode cX1_measure 55 = .ok (.iinc 2 1, 3) := by decide +kernel
theorem dX1_measure_58 : decode cX1_measure 58 = .ok (.goto (-47), 3) := by decide +kernel
theorem dX1_measure_61 : decode cX1_measure 61 = .ok (.return_, 1) := by decide +kernel
theorem dX1_at_0 : decode cX1_at 0 = .ok (.aload_n 0, 1) := by decide +kernel
theorem dX1_at_1 : decode cX1_at 1 = .ok (.getfield 9, 3) := by decide +kernel
theorem dX1_at_4 : decode cX1_at 4 = .ok (.iload_n 1, 1) := by decide +kernel
theorem dX1_at_5 : decode cX1_at 5 = .ok (.bipush 16, 2) := by decide +kernel
theorem dX1_at_7 : decode cX1_at 7 = .ok (.iload_n 2, 1) := by decide +kernel
theorem dX1_at_8 : decode cX1_at 8 = .ok (.imul, 1) := by decide +kernel
theorem dX1_at_9 : decode cX1_at 9 = .ok (.iadd, 1) := by decide +kernel
theorem dX1_at_10 : decode cX1_at 10 = .ok (.iaload, 1) := by decide +kernel
theorem dX1_at_11 : decode cX1_at 11 = .ok (.ireturn, 1) := by decide +kernel
theorem dX1_isFilled_0 : decode cX1_isFilled 0 = .ok (.aload_n 0, 1) := by decide +kernel
theorem dX1_isFilled_1 : decode cX1_isFilled 1 = .ok (.getfield 9, 3) := by decide +kernel
theorem dX1_isFilled_4 : decode cX1_isFilled 4 = .ok (.iload_n 1, 1) := by decide +kernel
theorem dX1_isFilled_5 : decode cX1_isFilled 5 = .ok (.bipush 16, 2) := by decide +kernel
theorem dX1_isFilled_7 : decode cX1_isFilled 7 = .ok (.iload_n 2, 1) := by decide +kernel
theorem dX1_isFilled_8 : decode cX1_isFilled 8 = .ok (.imul, 1) := by decide +kernel
theorem dX1_isFilled_9 : decode cX1_isFilled 9 = .ok (.iadd, 1) := by decide +kernel
theorem dX1_isFilled_10 : decode cX1_isFilled 10 = .ok (.iaload, 1) := by decide +kernel
theorem dX1_isFilled_11 : decode cX1_isFilled 11 = .ok (.ldc 15, 2) := by decide +kernel
theorem dX1_isFilled_13 : decode cX1_isFilled 13 = .ok (.if_icmp .eq 7, 3) := by decide +kernel
theorem dX1_isFilled_16 : decode cX1_isFilled 16 = .ok (.iconst 1, 1) := by decide +kernel
theorem dX1_isFilled_17 : decode cX1_isFilled 17 = .ok (.goto 4, 3) := by decide +kernel
theorem dX1_isFilled_20 : decode cX1_isFilled 20 = .ok (.iconst 0, 1) := by decide +kernel
theorem dX1_isFilled_21 : decode cX1_isFilled 21 = .ok (.ireturn, 1) := by decide +kernel
theorem dX1_isQuad_0 : decode cX1_isQuad 0 = .ok (.iload_n 1, 1) := by decide +kernel
theorem dX1_isQuad_1 : decode cX1_isQuad 1 = .ok (.ifCond .lt 67, 3) := by decide +kernel
theorem dX1_isQuad_4 : decode cX1_isQuad 4 = .ok (.iload_n 1, 1) := by decide +kernel
theorem dX1_isQuad_5 : decode cX1_isQuad 5 = .ok (.bipush 15, 2) := by decide +kernel
theorem dX1_isQuad_7 : decode cX1_isQuad 7 = .ok (.if_icmp .ge 61, 3) := by decide +kernel
theorem dX1_isQuad_10 : decode cX1_isQuad 10 = .ok (.iload_n 2, 1) := by decide +kernel
theorem dX1_isQuad_11 : decode cX1_isQuad 11 = .ok (.ifCond .lt 57, 3) := by decide +kernel
theorem dX1_isQuad_14 : decode cX1_isQuad 14 = .ok (.iload_n 2, 1) := by decide +kernel
theorem dX1_isQuad_15 : decode cX1_isQuad 15 = .ok (.bipush 15, 2) := by decide +kernel
theorem dX1_isQuad_17 : decode cX1_isQuad 17 = .ok (.if_icmp .ge 51, 3) := by decide +kernel
theorem dX1_isQuad_20 : decode cX1_isQuad 20 = .ok (.aload_n 0, 1) := by decide +kernel
theorem dX1_isQuad_21 : decode cX1_isQuad 21 = .ok (.iload_n 1, 1) := by decide +kernel
theorem dX1_isQuad_22 : decode cX1_isQuad 22 = .ok (.iload_n 2, 1) := by decide +kernel
theorem dX1_isQuad_23 : decode cX1_isQuad 23 = .ok (.invokevirtual 44, 3) := by decide +kernel
theorem dX1_isQuad_26 : decode cX1_isQuad 26 = .ok (.ifCond .eq 42, 3) := by decide +kernel
theorem dX1_isQuad_29 : decode cX1_isQuad 29 = .ok (.aload_n 0, 1) := by decide +kernel
theorem dX1_isQuad_30 : decode cX1_isQuad 30 = .ok (.iload_n 1, 1) := by decide +kernel
theorem dX1_isQuad_31 : decode cX1_isQuad 31 = .ok (.iconst 1, 1) := by decide +kernel
theorem dX1_isQuad_32 : decode cX1_isQuad 32 = .ok (.iadd, 1) := by decide +kernel
theorem dX1_isQuad_33 : decode cX1_isQuad 33 = .ok (.iload_n 2, 1) := by decide +kernel
theorem dX1_isQuad_34 : decode cX1_isQuad 34 = .ok (.invokevirtual 44, 3) := by decide +kernel
theorem dX1_isQuad_37 : decode cX1_isQuad 37 = .ok (.ifCond .eq 31, 3) := by decide +kernel
theorem dX1_isQuad_40 : decode cX1_isQuad 40 = .ok (.aload_n 0, 1) := by decide +kernel
theorem dX1_isQuad_41 : decode cX1_isQuad 41 = .ok (.iload_n 1, 1) := by decide +kernel
theorem dX1_isQuad_42 : decode cX1_isQuad 42 = .ok (.iload_n 2, 1) := by decide +kernel
theorem dX1_isQuad_43 : decode cX1_isQuad 43 = .ok (.iconst 1, 1) := by decide +kernel
theorem dX1_isQuad_44 : decode cX1_isQuad 44 = .ok (.iadd, 1) := by decide +kernel
theorem dX1_isQuad_45 : decode cX1_isQuad 45 = .ok (.invokevirtual 44, 3) := by decide +kernel
theorem dX1_isQuad_48 : decode cX1_isQuad 48 = .ok (.ifCond .eq 20, 3) := by decide +kernel
theorem dX1_isQuad_51 : decode cX1_isQuad 51 = .ok (.aload_n 0, 1) := by decide +kernel
theorem dX1_isQuad_52 : decode cX1_isQuad 52 = .ok (.iload_n 1, 1) := by decide +kernel
theorem dX1_isQuad_53 : decode cX1_isQuad 53 = .ok (.iconst 1, 1) := by decide +kernel
theorem dX1_isQuad_54 : decode cX1_isQuad 54 = .ok (.iadd, 1) := by decide +kernel
theorem dX1_isQuad_55 : decode cX1_isQuad 55 = .ok (.iload_n 2, 1) := by decide +kernel
theorem dX1_isQuad_56 : decode cX1_isQuad 56 = .ok (.iconst 1, 1) := by decide +kernel
theorem dX1_isQuad_57 : decode cX1_isQuad 57 = .ok (.iadd, 1) := by decide +kernel
theorem dX1_isQuad_58 : decode cX1_isQuad 58 = .ok (.invokevirtual 44, 3) := by decide +kernel
theorem dX1_isQuad_61 : decode cX1_isQuad 61 = .ok (.ifCond .eq 7, 3) := by decide +kernel
theorem dX1_isQuad_64 : decode cX1_isQuad 64 = .ok (.iconst 1, 1) := by decide +kernel
theorem dX1_isQuad_65 : decode cX1_isQuad 65 = .ok (.goto 4, 3) := by decide +kernel
theorem dX1_isQuad_68 : decode cX1_isQuad 68 = .ok (.iconst 0, 1) := by decide +kernel
theorem dX1_isQuad_69 : decode cX1_isQuad 69 = .ok (.ireturn, 1) := by decide +kernel
theorem dX1_countFilled_0 : decode cX1_countFilled 0 = .ok (.iconst 0, 1) := by decide +kernel
theorem dX1_countFilled_1 : decode cX1_countFilled 1 = .ok (.istore_n 1, 1) := by decide +kernel
theorem dX1_countFilled_2 : decode cX1_countFilled 2 = .ok (.aload_n 0, 1) := by decide +kernel
theorem dX1_countFilled_3 : decode cX1_countFilled 3 = .ok (.getfield 9, 3) := by decide +kernel
theorem dX1_countFilled_6 : decode cX1_countFilled 6 = .ok (.astore_n 2, 1) := by decide +kernel
theorem dX1_countFilled_7 : decode cX1_countFilled 7 = .ok (.aload_n 2, 1) := by decide +kernel
theorem dX1_countFilled_8 : decode cX1_countFilled 8 = .ok (.arraylength, 1) := by decide +kernel
theorem dX1_countFilled_9 : decode cX1_countFilled 9 = .ok (.istore_n 3, 1) := by decide +kernel
theorem dX1_countFilled_10 : decode cX1_countFilled 10 = .ok (.iconst 0, 1) := by decide +kernel
theorem dX1_countFilled_11 : decode cX1_countFilled 11 = .ok (.istore 4, 2) := by decide +kernel
theorem dX1_countFilled_13 : decode cX1_countFilled 13 = .ok (.iload 4, 2) := by decide +kernel
theorem dX1_countFilled_15 : decode cX1_countFilled 15 = .ok (.iload_n 3, 1) := by decide +kernel
theorem dX1_countFilled_16 : decode cX1_countFilled 16 = .ok (.if_icmp .ge 25, 3) := by decide +kernel
theorem dX1_countFilled_19 : decode cX1_countFilled 19 = .ok (.aload_n 2, 1) := by decide +kernel
theorem dX1_countFilled_20 : decode cX1_countFilled 20 = .ok (.iload 4, 2) := by decide +kernel
theorem dX1_countFilled_22 : decode cX1_countFilled 22 = .ok (.iaload, 1) := by decide +kernel
theorem dX1_countFilled_23 : decode cX1_countFilled 23 = .ok (.istore 5, 2) := by decide +kernel
theorem dX1_countFilled_25 : decode cX1_countFilled 25 = .ok (.iload 5, 2) := by decide +kernel
theorem dX1_countFilled_27 : decode cX1_countFilled 27 = .ok (.ldc 15, 2) := by decide +kernel
theorem dX1_countFilled_29 : decode cX1_countFilled 29 = .ok (.if_icmp .eq 6, 3) := by decide +kernel
theorem dX1_countFilled_32 : decode cX1_countFilled 32 = .ok (.iinc 1 1, 3) := by decide +kernel
theorem dX1_countFilled_35 : decode cX1_countFilled 35 = .ok (.iinc 4 1, 3) := by decide +kernel
theorem dX1_countFilled_38 : decode cX1_countFilled 38 = .ok (.goto (-25), 3) := by decide +kernel
theorem dX1_countFilled_41 : decode cX1_countFilled 41 = .ok (.iload_n 1, 1) := by decide +kernel
theorem dX1_countFilled_42 : decode cX1_countFilled 42 = .ok (.ireturn, 1) := by decide +kernel
theorem dX1_countThirds_0 : decode cX1_countThirds 0 = .ok (.iconst 0, 1) := by decide +kernel
theorem dX1_countThirds_1 : decode cX1_countThirds 1 = .ok (.istore_n 1, 1) := by decide +kernel
theorem dX1_countThirds_2 : decode cX1_countThirds 2 = .ok (.iconst 0, 1) := by decide +kernel
theorem dX1_countThirds_3 : decode cX1_countThirds 3 = .ok (.istore_n 2, 1) := by decide +kernel
theorem dX1_countThirds_4 : decode cX1_countThirds 4 = .ok (.iload_n 2, 1) := by decide +kernel
theorem dX1_countThirds_5 : decode cX1_countThirds 5 = .ok (.bipush 15, 2) := by decide +kernel
theorem dX1_countThirds_7 : decode cX1_countThirds 7 = .ok (.if_icmp .ge 35, 3) := by decide +kernel
theorem dX1_countThirds_10 : decode cX1_countThirds 10 = .ok (.iconst 0, 1) := by decide +kernel
theorem dX1_countThirds_11 : decode cX1_countThirds 11 = .ok (.istore_n 3, 1) := by decide +kernel
theorem dX1_countThirds_12 : decode cX1_countThirds 12 = .ok (.iload_n 3, 1) := by decide +kernel
theorem dX1_countThirds_13 : decode cX1_countThirds 13 = .ok (.bipush 15, 2) := by decide +kernel
theorem dX1_countThirds_15 : decode cX1_countThirds 15 = .ok (.if_icmp .ge 21, 3) := by decide +kernel
theorem dX1_countThirds_18 : decode cX1_countThirds 18 = .ok (.aload_n 0, 1) := by decide +kernel
theorem dX1_countThirds_19 : decode cX1_countThirds 19 = .ok (.iload_n 3, 1) := by decide +kernel
theorem dX1_countThirds_20 : decode cX1_countThirds 20 = .ok (.iload_n 2, 1) := by decide +kernel
theorem dX1_countThirds_21 : decode cX1_countThirds 21 = .ok (.invokevirtual 48, 3) := by decide +kernel
theorem dX1_countThirds_24 : decode cX1_countThirds 24 = .ok (.ifCond .eq 6, 3) := by decide +kernel
theorem dX1_countThirds_27 : decode cX1_countThirds 27 = .ok (.iinc 1 2, 3) := by decide +kernel
theorem dX1_countThirds_30 : decode cX1_countThirds 30 = .ok (.iinc 3 1, 3) := by decide +kernel
theorem dX1_countThirds_33 : decode cX1_countThirds 33 = .ok (.goto (-21), 3) := by decide +kernel
theorem dX1_countThirds_36 : decode cX1_countThirds 36 = .ok (.iinc 2 1, 3) := by decide +kernel
theorem dX1_countThirds_39 : decode cX1_countThirds 39 = .ok (.goto (-35), 3) := by decide +kernel
theorem dX1_countThirds_42 : decode cX1_countThirds 42 = .ok (.iload_n 1, 1) := by decide +kernel
theorem dX1_countThirds_43 : decode cX1_countThirds 43 = .ok (.ireturn, 1) := by decide +kernel
theorem dX1_volumeAbove_0 : decode cX1_volumeAbove 0 = .ok (.lconst 0, 1) := by decide +kernel
theorem dX1_volumeAbove_1 : decode cX1_volumeAbove 1 = .ok (.lstore_n 2, 1) := by decide +kernel
theorem dX1_volumeAbove_2 : decode cX1_volumeAbove 2 = .ok (.iconst 0, 1) := by decide +kernel
theorem dX1_volumeAbove_3 : decode cX1_volumeAbove 3 = .ok (.istore 4, 2) := by decide +kernel
theorem dX1_volumeAbove_5 : decode cX1_volumeAbove 5 = .ok (.iload 4, 2) := by decide +kernel
theorem dX1_volumeAbove_7 : decode cX1_volumeAbove 7 = .ok (.bipush 15, 2) := by decide +kernel
theorem dX1_volumeAbove_9 : decode cX1_volumeAbove 9 = .ok (.if_icmp .ge 55, 3) := by decide +kernel
theorem dX1_volumeAbove_12 : decode cX1_volumeAbove 12 = .ok (.iconst 0, 1) := by decide +kernel
theorem dX1_volumeAbove_13 : decode cX1_volumeAbove 13 = .ok (.istore 5, 2) := by decide +kernel
theorem dX1_volumeAbove_15 : decode cX1_volumeAbove 15 = .ok (.iload 5, 2) := by decide +kernel
theorem dX1_volumeAbove_17 : decode cX1_volumeAbove 17 = .ok (.bipush 15, 2) := by decide +kernel
theorem dX1_volumeAbove_19 : decode cX1_volumeAbove 19 = .ok (.if_icmp .ge 39, 3) := by decide +kernel
theorem dX1_volumeAbove_22 : decode cX1_volumeAbove 22 = .ok (.aload_n 0, 1) := by decide +kernel
theorem dX1_volumeAbove_23 : decode cX1_volumeAbove 23 = .ok (.iload 5, 2) := by decide +kernel
theorem dX1_volumeAbove_25 : decode cX1_volumeAbove 25 = .ok (.iload 4, 2) := by decide +kernel
theorem dX1_volumeAbove_27 : decode cX1_volumeAbove 27 = .ok (.invokevirtual 48, 3) := by decide +kernel
theorem dX1_volumeAbove_30 : decode cX1_volumeAbove 30 = .ok (.ifCond .eq 22, 3) := by decide +kernel
theorem dX1_volumeAbove_33 : decode cX1_volumeAbove 33 = .ok (.lload_n 2, 1) := by decide +kernel
theorem dX1_volumeAbove_34 : decode cX1_volumeAbove 34 = .ok (.aload_n 0, 1) := by decide +kernel
theorem dX1_volumeAbove_35 : decode cX1_volumeAbove 35 = .ok (.iload 5, 2) := by decide +kernel
theorem dX1_volumeAbove_37 : decode cX1_volumeAbove 37 = .ok (.iload 4, 2) := by decide +kernel
theorem dX1_volumeAbove_39 : decode cX1_volumeAbove 39 = .ok (.invokevirtual 51, 3) := by decide +kernel
theorem dX1_volumeAbove_42 : decode cX1_volumeAbove 42 = .ok (.i2l, 1) := by decide +kernel
theorem dX1_volumeAbove_43 : decode cX1_volumeAbove 43 = .ok (.ldc2_w 54, 3) := by decide +kernel
theorem dX1_volumeAbove_46 : decode cX1_volumeAbove 46 = .ok (.iload_n 1, 1) := by decide +kernel
theorem dX1_volumeAbove_47 : decode cX1_volumeAbove 47 = .ok (.i2l, 1) := by decide +kernel
theorem dX1_volumeAbove_48 : decode cX1_volumeAbove 48 = .ok (.lmul, 1) := by decide +kernel
theorem dX1_volumeAbove_49 : decode cX1_volumeAbove 49 = .ok (.lsub, 1) := by decide +kernel
theorem dX1_volumeAbove_50 : decode cX1_volumeAbove 50 = .ok (.ladd, 1) := by decide +kernel
theorem dX1_volumeAbove_51 : decode cX1_volumeAbove 51 = .ok (.lstore_n 2, 1) := by decide +kernel
theorem dX1_volumeAbove_52 : decode cX1_volumeAbove 52 = .ok (.iinc 5 1, 3) := by decide +kernel
theorem dX1_volumeAbove_55 : decode cX1_volumeAbove 55 = .ok (.goto (-40), 3) := by decide +kernel
theorem dX1_volumeAbove_58 : decode cX1_volumeAbove 58 = .ok (.iinc 4 1, 3) := by decide +kernel
theorem dX1_volumeAbove_61 : decode cX1_volumeAbove 61 = .ok (.goto (-56), 3) := by decide +kernel
theorem dX1_volumeAbove_64 : decode cX1_volumeAbove 64 = .ok (.ldc2_w 56, 3) := by decide +kernel
theorem dX1_volumeAbove_67 : decode cX1_volumeAbove 67 = .ok (.lload_n 2, 1) := by decide +kernel
theorem dX1_volumeAbove_68 : decode cX1_volumeAbove 68 = .ok (.lmul, 1) := by decide +kernel
theorem dX1_volumeAbove_69 : decode cX1_volumeAbove 69 = .ok (.lreturn, 1) := by decide +kernel
theorem dX1_sumOfBoth_0 : decode cX1_sumOfBoth 0 = .ok (.iconst 2, 1) := by decide +kernel
theorem dX1_sumOfBoth_1 : decode cX1_sumOfBoth 1 = .ok (.aload_n 0, 1) := by decide +kernel
theorem dX1_sumOfBoth_2 : decode cX1_sumOfBoth 2 = .ok (.iload_n 1, 1) := by decide +kernel
theorem dX1_sumOfBoth_3 : decode cX1_sumOfBoth 3 = .ok (.iload_n 2, 1) := by decide +kernel
theorem dX1_sumOfBoth_4 : decode cX1_sumOfBoth 4 = .ok (.invokevirtual 58, 3) := by decide +kernel
theorem dX1_sumOfBoth_7 : decode cX1_sumOfBoth 7 = .ok (.aload_n 0, 1) := by decide +kernel
theorem dX1_sumOfBoth_8 : decode cX1_sumOfBoth 8 = .ok (.iload_n 1, 1) := by decide +kernel
theorem dX1_sumOfBoth_9 : decode cX1_sumOfBoth 9 = .ok (.iconst 1, 1) := by decide +kernel
theorem dX1_sumOfBoth_10 : decode cX1_sumOfBoth 10 = .ok (.iadd, 1) := by decide +kernel
theorem dX1_sumOfBoth_11 : decode cX1_sumOfBoth 11 = .ok (.iload_n 2, 1) := by decide +kernel
theorem dX1_sumOfBoth_12 : decode cX1_sumOfBoth 12 = .ok (.iconst 1, 1) := by decide +kernel
theorem dX1_sumOfBoth_13 : decode cX1_sumOfBoth 13 = .ok (.iadd, 1) := by decide +kernel
theorem dX1_sumOfBoth_14 : decode cX1_sumOfBoth 14 = .ok (.invokevirtual 58, 3) := by decide +kernel
theorem dX1_sumOfBoth_17 : decode cX1_sumOfBoth 17 = .ok (.iadd, 1) := by decide +kernel
theorem dX1_sumOfBoth_18 : decode cX1_sumOfBoth 18 = .ok (.imul, 1) := by decide +kernel
theorem dX1_sumOfBoth_19 : decode cX1_sumOfBoth 19 = .ok (.aload_n 0, 1) := by decide +kernel
theorem dX1_sumOfBoth_20 : decode cX1_sumOfBoth 20 = .ok (.iload_n 1, 1) := by decide +kernel
theorem dX1_sumOfBoth_21 : decode cX1_sumOfBoth 21 = .ok (.iconst 1, 1) := by decide +kernel
theorem dX1_sumOfBoth_22 : decode cX1_sumOfBoth 22 = .ok (.iadd, 1) := by decide +kernel
theorem dX1_sumOfBoth_23 : decode cX1_sumOfBoth 23 = .ok (.iload_n 2, 1) := by decide +kernel
theorem dX1_sumOfBoth_24 : decode cX1_sumOfBoth 24 = .ok (.invokevirtual 58, 3) := by decide +kernel
theorem dX1_sumOfBoth_27 : decode cX1_sumOfBoth 27 = .ok (.iadd, 1) := by decide +kernel
theorem dX1_sumOfBoth_28 : decode cX1_sumOfBoth 28 = .ok (.aload_n 0, 1) := by decide +kernel
theorem dX1_sumOfBoth_29 : decode cX1_sumOfBoth 29 = .ok (.iload_n 1, 1) := by decide +kernel
theorem dX1_sumOfBoth_30 : decode cX1_sumOfBoth 30 = .ok (.iload_n 2, 1) := by decide +kernel
theorem dX1_sumOfBoth_31 : decode cX1_sumOfBoth 31 = .ok (.iconst 1, 1) := by decide +kernel
theorem dX1_sumOfBoth_32 : decode cX1_sumOfBoth 32 = .ok (.iadd, 1) := by decide +kernel
theorem dX1_sumOfBoth_33 : decode cX1_sumOfBoth 33 = .ok (.invokevirtual 58, 3) := by decide +kernel
theorem dX1_sumOfBoth_36 : decode cX1_sumOfBoth 36 = .ok (.iadd, 1) := by decide +kernel
theorem dX1_sumOfBoth_37 : decode cX1_sumOfBoth 37 = .ok (.ireturn, 1) := by decide +kernel
theorem dX1_bothFilled_0 : decode cX1_bothFilled 0 = .ok (.aload_n 0, 1) := by decide +kernel
theorem dX1_bothFilled_1 : decode cX1_bothFilled 1 = .ok (.getfield 9, 3) := by decide +kernel
theorem dX1_bothFilled_4 : decode cX1_bothFilled 4 = .ok (.iload_n 2, 1) := by decide +kernel
theorem dX1_bothFilled_5 : decode cX1_bothFilled 5 = .ok (.iaload, 1) := by decide +kernel
theorem dX1_bothFilled_6 : decode cX1_bothFilled 6 = .ok (.ldc 15, 2) := by decide +kernel
theorem dX1_bothFilled_8 : decode cX1_bothFilled 8 = .ok (.if_icmp .eq 18, 3) := by decide +kernel
theorem dX1_bothFilled_11 : decode cX1_bothFilled 11 = .ok (.aload_n 1, 1) := by decide +kernel
theorem dX1_bothFilled_12 : decode cX1_bothFilled 12 = .ok (.getfield 9, 3) := by decide +kernel
theorem dX1_bothFilled_15 : decode cX1_bothFilled 15 = .ok (.iload_n 2, 1) := by decide +kernel
theorem dX1_bothFilled_16 : decode cX1_bothFilled 16 = .ok (.iaload, 1) := by decide +kernel
theorem dX1_bothFilled_17 : decode cX1_bothFilled 17 = .ok (.ldc 15, 2) := by decide +kernel
theorem dX1_bothFilled_19 : decode cX1_bothFilled 19 = .ok (.if_icmp .eq 7, 3) := by decide +kernel
theorem dX1_bothFilled_22 : decode cX1_bothFilled 22 = .ok (.iconst 1, 1) := by decide +kernel
theorem dX1_bothFilled_23 : decode cX1_bothFilled 23 = .ok (.goto 4, 3) := by decide +kernel
theorem dX1_bothFilled_26 : decode cX1_bothFilled 26 = .ok (.iconst 0, 1) := by decide +kernel
theorem dX1_bothFilled_27 : decode cX1_bothFilled 27 = .ok (.ireturn, 1) := by decide +kernel
theorem dX1_countBoth_0 : decode cX1_countBoth 0 = .ok (.iconst 0, 1) := by decide +kernel
theorem dX1_countBoth_1 : decode cX1_countBoth 1 = .ok (.istore_n 2, 1) := by decide +kernel
theorem dX1_countBoth_2 : decode cX1_countBoth 2 = .ok (.iconst 0, 1) := by decide +kernel
theorem dX1_countBoth_3 : decode cX1_countBoth 3 = .ok (.istore_n 3, 1) := by decide +kernel
theorem dX1_countBoth_4 : decode cX1_countBoth 4 = .ok (.iload_n 3, 1) := by decide +kernel
theorem dX1_countBoth_5 : decode cX1_countBoth 5 = .ok (.aload_n 0, 1) := by decide +kernel
theorem dX1_countBoth_6 : decode cX1_countBoth 6 = .ok (.getfield 9, 3) := by decide +kernel
theorem dX1_countBoth_9 : decode cX1_countBoth 9 = .ok (.arraylength, 1) := by decide +kernel
theorem dX1_countBoth_10 : decode cX1_countBoth 10 = .ok (.if_icmp .ge 21, 3) := by decide +kernel
theorem dX1_countBoth_13 : decode cX1_countBoth 13 = .ok (.aload_n 0, 1) := by decide +kernel
theorem dX1_countBoth_14 : decode cX1_countBoth 14 = .ok (.aload_n 1, 1) := by decide +kernel
theorem dX1_countBoth_15 : decode cX1_countBoth 15 = .ok (.iload_n 3, 1) := by decide +kernel
theorem dX1_countBoth_16 : decode cX1_countBoth 16 = .ok (.invokevirtual 61, 3) := by decide +kernel
theorem dX1_countBoth_19 : decode cX1_countBoth 19 = .ok (.ifCond .eq 6, 3) := by decide +kernel
theorem dX1_countBoth_22 : decode cX1_countBoth 22 = .ok (.iinc 2 1, 3) := by decide +kernel
theorem dX1_countBoth_25 : decode cX1_countBoth 25 = .ok (.iinc 3 1, 3) := by decide +kernel
theorem dX1_countBoth_28 : decode cX1_countBoth 28 = .ok (.goto (-24), 3) := by decide +kernel
theorem dX1_countBoth_31 : decode cX1_countBoth 31 = .ok (.iload_n 2, 1) := by decide +kernel
theorem dX1_countBoth_32 : decode cX1_countBoth 32 = .ok (.ireturn, 1) := by decide +kernel
theorem dX1_countRisen_0 : decode cX1_countRisen 0 = .ok (.iconst 0, 1) := by decide +kernel
theorem dX1_countRisen_1 : decode cX1_countRisen 1 = .ok (.istore_n 3, 1) := by decide +kernel
theorem dX1_countRisen_2 : decode cX1_countRisen 2 = .ok (.iconst 0, 1) := by decide +kernel
theorem dX1_countRisen_3 : decode cX1_countRisen 3 = .ok (.istore 4, 2) := by decide +kernel
theorem dX1_countRisen_5 : decode cX1_countRisen 5 = .ok (.iload 4, 2) := by decide +kernel
theorem dX1_countRisen_7 : decode cX1_countRisen 7 = .ok (.aload_n 0, 1) := by decide +kernel
theorem dX1_countRisen_8 : decode cX1_countRisen 8 = .ok (.getfield 9, 3) := by decide +kernel
theorem dX1_countRisen_11 : decode cX1_countRisen 11 = .ok (.arraylength, 1) := by decide +kernel
theorem dX1_countRisen_12 : decode cX1_countRisen 12 = .ok (.if_icmp .ge 50, 3) := by decide +kernel
theorem dX1_countRisen_15 : decode cX1_countRisen 15 = .ok (.aload_n 0, 1) := by decide +kernel
theorem dX1_countRisen_16 : decode cX1_countRisen 16 = .ok (.aload_n 1, 1) := by decide +kernel
theorem dX1_countRisen_17 : decode cX1_countRisen 17 = .ok (.iload 4, 2) := by decide +kernel
theorem dX1_countRisen_19 : decode cX1_countRisen 19 = .ok (.invokevirtual 61, 3) := by decide +kernel
theorem dX1_countRisen_22 : decode cX1_countRisen 22 = .ok (.ifCond .eq 34, 3) := by decide +kernel
theorem dX1_countRisen_25 : decode cX1_countRisen 25 = .ok (.aload_n 1, 1) := by decide +kernel
theorem dX1_countRisen_26 : decode cX1_countRisen 26 = .ok (.getfield 9, 3) := by decide +kernel
theorem dX1_countRisen_29 : decode cX1_countRisen 29 = .ok (.iload 4, 2) := by decide +kernel
theorem dX1_countRisen_31 : decode cX1_countRisen 31 = .ok (.iaload, 1) := by decide +kernel
theorem dX1_countRisen_32 : decode cX1_countRisen 32 = .ok (.aload_n 0, 1) := by decide +kernel
theorem dX1_countRisen_33 : decode cX1_countRisen 33 = .ok (.getfield 9, 3) := by decide +kernel
theorem dX1_countRisen_36 : decode cX1_countRisen 36 = .ok (.iload 4, 2) := by decide +kernel
theorem dX1_countRisen_38 : decode cX1_countRisen 38 = .ok (.iaload, 1) := by decide +kernel
theorem dX1_countRisen_39 : decode cX1_countRisen 39 = .ok (.isub, 1) := by decide +kernel
theorem dX1_countRisen_40 : decode cX1_countRisen 40 = .ok (.istore 5, 2) := by decide +kernel
theorem dX1_countRisen_42 : decode cX1_countRisen 42 = .ok (.iload 5, 2) := by decide +kernel
theorem dX1_countRisen_44 : decode cX1_countRisen 44 = .ok (.ifCond .le 12, 3) := by decide +kernel
theorem dX1_countRisen_47 : decode cX1_countRisen 47 = .ok (.iload 5, 2) := by decide +kernel
theorem dX1_countRisen_49 : decode cX1_countRisen 49 = .ok (.iload_n 2, 1) := by decide +kernel
theorem dX1_countRisen_50 : decode cX1_countRisen 50 = .ok (.if_icmp .lt 6, 3) := by decide +kernel
theorem dX1_countRisen_53 : decode cX1_countRisen 53 = .ok (.iinc 3 1, 3) := by decide +kernel
theorem dX1_countRisen_56 : decode cX1_countRisen 56 = .ok (.iinc 4 1, 3) := by decide +kernel
theorem dX1_countRisen_59 : decode cX1_countRisen 59 = .ok (.goto (-54), 3) := by decide +kernel
theorem dX1_countRisen_62 : decode cX1_countRisen 62 = .ok (.iload_n 3, 1) := by decide +kernel
theorem dX1_countRisen_63 : decode cX1_countRisen 63 = .ok (.ireturn, 1) := by decide +kernel
theorem dX1_sumOfRises_0 : decode cX1_sumOfRises 0 = .ok (.iconst 0, 1) := by decide +kernel
theorem dX1_sumOfRises_1 : decode cX1_sumOfRises 1 = .ok (.istore_n 2, 1) := by decide +kernel
theorem dX1_sumOfRises_2 : decode cX1_sumOfRises 2 = .ok (.iconst 0, 1) := by decide +kernel
theorem dX1_sumOfRises_3 : decode cX1_sumOfRises 3 = .ok (.istore_n 3, 1) := by decide +kernel
theorem dX1_sumOfRises_4 : decode cX1_sumOfRises 4 = .ok (.iload_n 3, 1) := by decide +kernel
theorem dX1_sumOfRises_5 : decode cX1_sumOfRises 5 = .ok (.aload_n 0, 1) := by decide +kernel
theorem dX1_sumOfRises_6 : decode cX1_sumOfRises 6 = .ok (.getfield 9, 3) := by decide +kernel
theorem dX1_sumOfRises_9 : decode cX1_sumOfRises 9 = .ok (.arraylength, 1) := by decide +kernel
theorem dX1_sumOfRises_10 : decode cX1_sumOfRises 10 = .ok (.if_icmp .ge 34, 3) := by decide +kernel
theorem dX1_sumOfRises_13 : decode cX1_sumOfRises 13 = .ok (.aload_n 0, 1) := by decide +kernel
theorem dX1_sumOfRises_14 : decode cX1_sumOfRises 14 = .ok (.aload_n 1, 1) := by decide +kernel
theorem dX1_sumOfRises_15 : decode cX1_sumOfRises 15 = .ok (.iload_n 3, 1) := by decide +kernel
theorem dX1_sumOfRises_16 : decode cX1_sumOfRises 16 = .ok (.invokevirtual 61, 3) := by decide +kernel
theorem dX1_sumOfRises_19 : decode cX1_sumOfRises 19 = .ok (.ifCond .eq 19, 3) := by decide +kernel
theorem dX1_sumOfRises_22 : decode cX1_sumOfRises 22 = .ok (.iload_n 2, 1) := by decide +kernel
theorem dX1_sumOfRises_23 : decode cX1_sumOfRises 23 = .ok (.aload_n 1, 1) := by decide +kernel
theorem dX1_sumOfRises_24 : decode cX1_sumOfRises 24 = .ok (.getfield 9, 3) := by decide +kernel
theorem dX1_sumOfRises_27 : decode cX1_sumOfRises 27 = .ok (.iload_n 3, 1) := by decide +kernel
theorem dX1_sumOfRises_28 : decode cX1_sumOfRises 28 = .ok (.iaload, 1) := by decide +kernel
theorem dX1_sumOfRises_29 : decode cX1_sumOfRises 29 = .ok (.aload_n 0, 1) := by decide +kernel
theorem dX1_sumOfRises_30 : decode cX1_sumOfRises 30 = .ok (.getfield 9, 3) := by decide +kernel
theorem dX1_sumOfRises_33 : decode cX1_sumOfRises 33 = .ok (.iload_n 3, 1) := by decide +kernel
theorem dX1_sumOfRises_34 : decode cX1_sumOfRises 34 = .ok (.iaload, 1) := by decide +kernel
theorem dX1_sumOfRises_35 : decode cX1_sumOfRises 35 = .ok (.isub, 1) := by decide +kernel
theorem dX1_sumOfRises_36 : decode cX1_sumOfRises 36 = .ok (.iadd, 1) := by decide +kernel
theorem dX1_sumOfRises_37 : decode cX1_sumOfRises 37 = .ok (.istore_n 2, 1) := by decide +kernel
theorem dX1_sumOfRises_38 : decode cX1_sumOfRises 38 = .ok (.iinc 3 1, 3) := by decide +kernel
theorem dX1_sumOfRises_41 : decode cX1_sumOfRises 41 = .ok (.goto (-37), 3) := by decide +kernel
theorem dX1_sumOfRises_44 : decode cX1_sumOfRises 44 = .ok (.iload_n 2, 1) := by decide +kernel
theorem dX1_sumOfRises_45 : decode cX1_sumOfRises 45 = .ok (.ireturn, 1) := by decide +kernel
theorem dX2_init_0 : decode cX2_init 0 = .ok (.aload_n 0, 1) := by decide +kernel
theorem dX2_init_1 : decode cX2_init 1 = .ok (.invokespecial 5, 3) := by decide +kernel
theorem dX2_init_4 : decode cX2_init 4 = .ok (.aload_n 0, 1) := by decide +kernel
theorem dX2_init_5 : decode cX2_init 5 = .ok (.bipush 80, 2) := by decide +kernel
theorem dX2_init_7 : decode cX2_init 7 = .ok (.newarray .char, 2) := by decide +kernel
theorem dX2_init_9 : decode cX2_init 9 = .ok (.putfield 13, 3) := by decide +kernel
theorem dX2_init_12 : decode cX2_init 12 = .ok (.aload_n 0, 1) := by decide +kernel
theorem dX2_init_13 : decode cX2_init 13 = .ok (.bipush 80, 2) := by decide +kernel
theorem dX2_init_15 : decode cX2_init 15 = .ok (.newarray .int, 2) := by decide +kernel
theorem dX2_init_17 : decode cX2_init 17 = .ok (.putfield 17, 3) := by decide +kernel
theorem dX2_init_20 : decode cX2_init 20 = .ok (.aload_n 0, 1) := by decide +kernel
theorem dX2_init_21 : decode cX2_init 21 = .ok (.bipush 80, 2) := by decide +kernel
theorem dX2_init_23 : decode cX2_init 23 = .ok (.newarray .int, 2) := by decide +kernel
theorem dX2_init_25 : decode cX2_init 25 = .ok (.putfield 21, 3) := by decide +kernel
theorem dX2_init_28 : decode cX2_init 28 = .ok (.aload_n 0, 1) := by decide +kernel
theorem dX2_init_29 : decode cX2_init 29 = .ok (.bipush 80, 2) := by decide +kernel
theorem dX2_init_31 : decode cX2_init 31 = .ok (.newarray .int, 2) := by decide +kernel
theorem dX2_init_33 : decode cX2_init 33 = .ok (.putfield 24, 3) := by decide +kernel
theorem dX2_init_36 : decode cX2_init 36 = .ok (.aload_n 0, 1) := by decide +kernel
theorem dX2_init_37 : decode cX2_init 37 = .ok (.iconst 0, 1) := by decide +kernel
theorem dX2_init_38 : decode cX2_init 38 = .ok (.putfield 27, 3) := by decide +kernel
theorem dX2_init_41 : decode cX2_init 41 = .ok (.aload_n 0, 1) := by decide +kernel
theorem dX2_init_42 : decode cX2_init 42 = .ok (.iconst 0, 1) := by decide +kernel
theorem dX2_init_43 : decode cX2_init 43 = .ok (.newarray .char, 2) := by decide +kernel
theorem dX2_init_45 : decode cX2_init 45 = .ok (.putfield 31, 3) := by decide +kernel
theorem dX2_init_48 : decode cX2_init 48 = .ok (.aload_n 0, 1) := by decide +kernel
theorem dX2_init_49 : decode cX2_init 49 = .ok (.iconst 0, 1) := by decide +kernel
theorem dX2_init_50 : decode cX2_init 50 = .ok (.putfield 34, 3) := by decide +kernel
theorem dX2_init_53 : decode cX2_init 53 = .ok (.aload_n 0, 1) := by decide +kernel
theorem dX2_init_54 : decode cX2_init 54 = .ok (.iconst 0, 1) := by decide +kernel
theorem dX2_init_55 : decode cX2_init 55 = .ok (.putfield 37, 3) := by decide +kernel
theorem dX2_init_58 : decode cX2_init 58 = .ok (.aload_n 0, 1) := by decide +kernel
theorem dX2_init_59 : decode cX2_init 59 = .ok (.iconst 0, 1) := by decide +kernel
theorem dX2_init_60 : decode cX2_init 60 = .ok (.putfield 40, 3) := by decide +kernel
theorem dX2_init_63 : decode cX2_init 63 = .ok (.return_, 1) := by decide +kernel
theorem dX3_init_0 : decode cX3_init 0 = .ok (.aload_n 0, 1) := by decide +kernel
theorem dX3_init_1 : decode cX3_init 1 = .ok (.invokespecial 5, 3) := by decide +kernel
theorem dX3_init_4 : decode cX3_init 4 = .ok (.aload_n 0, 1) := by decide +kernel
theorem dX3_init_5 : decode cX3_init 5 = .ok (.sipush 450, 3) := by decide +kernel
theorem dX3_init_8 : decode cX3_init 8 = .ok (.newarray .boolean, 2) := by decide +kernel
theorem dX3_init_10 : decode cX3_init 10 = .ok (.putfield 11, 3) := by decide +kernel
theorem dX3_init_13 : decode cX3_init 13 = .ok (.aload_n 0, 1) := by decide +kernel
theorem dX3_init_14 : decode cX3_init 14 = .ok (.sipush 450, 3) := by decide +kernel
theorem dX3_init_17 : decode cX3_init 17 = .ok (.newarray .int, 2) := by decide +kernel
theorem dX3_init_19 : decode cX3_init 19 = .ok (.putfield 15, 3) := by decide +kernel
theorem dX3_init_22 : decode cX3_init 22 = .ok (.aload_n 0, 1) := by decide +kernel
theorem dX3_init_23 : decode cX3_init 23 = .ok (.iconst 0, 1) := by decide +kernel
theorem dX3_init_24 : decode cX3_init 24 = .ok (.putfield 19, 3) := by decide +kernel
theorem dX3_init_27 : decode cX3_init 27 = .ok (.return_, 1) := by decide +kernel
theorem dX3_countLines_0 : decode cX3_countLines 0 = .ok (.iconst 0, 1) := by decide +kernel
theorem dX3_countLines_1 : decode cX3_countLines 1 = .ok (.istore 4, 2) := by decide +kernel
theorem dX3_countLines_3 : decode cX3_countLines 3 = .ok (.iload 4, 2) := by decide +kernel
theorem dX3_countLines_5 : decode cX3_countLines 5 = .ok (.sipush 450, 3) := by decide +kernel
theorem dX3_countLines_8 : decode cX3_countLines 8 = .ok (.if_icmp .ge 17, 3) := by decide +kernel
theorem dX3_countLines_11 : decode cX3_countLines 11 = .ok (.aload_n 0, 1) := by decide +kernel
theorem dX3_countLines_12 : decode cX3_countLines 12 = .ok (.getfield 11, 3) := by decide +kernel
theorem dX3_countLines_15 : decode cX3_countLines 15 = .ok (.iload 4, 2) := by decide +kernel
theorem dX3_countLines_17 : decode cX3_countLines 17 = .ok (.iconst 0, 1) := by decide +kernel
theorem dX3_countLines_18 : decode cX3_countLines 18 = .ok (.bastore, 1) := by decide +kernel
theorem dX3_countLines_19 : decode cX3_countLines 19 = .ok (.iinc 4 1, 3) := by decide +kernel
theorem dX3_countLines_22 : decode cX3_countLines 22 = .ok (.goto (-19), 3) := by decide +kernel
theorem dX3_countLines_25 : decode cX3_countLines 25 = .ok (.iconst 0, 1) := by decide +kernel
theorem dX3_countLines_26 : decode cX3_countLines 26 = .ok (.istore 4, 2) := by decide +kernel
theorem dX3_countLines_28 : decode cX3_countLines 28 = .ok (.iconst 0, 1) := by decide +kernel
theorem dX3_countLines_29 : decode cX3_countLines 29 = .ok (.istore 5, 2) := by decide +kernel
theorem dX3_countLines_31 : decode cX3_countLines 31 = .ok (.iload 5, 2) := by decide +kernel
theorem dX3_countLines_33 : decode cX3_countLines 33 = .ok (.sipush 450, 3) := by decide +kernel
theorem dX3_countLines_36 : decode cX3_countLines 36 = .ok (.if_icmp .ge 52, 3) := by decide +kernel
theorem dX3_countLines_39 : decode cX3_countLines 39 = .ok (.aload_n 0, 1) := by decide +kernel
theorem dX3_countLines_40 : decode cX3_countLines 40 = .ok (.getfield 11, 3) := by decide +kernel
theorem dX3_countLines_43 : decode cX3_countLines 43 = .ok (.iload 5, 2) := by decide +kernel
theorem dX3_countLines_45 : decode cX3_countLines 45 = .ok (.baload, 1) := by decide +kernel
theorem dX3_countLines_46 : decode cX3_countLines 46 = .ok (.ifCond .ne 36, 3) := by decide +kernel
theorem dX3_countLines_49 : decode cX3_countLines 49 = .ok (.aload_n 0, 1) := by decide +kernel
theorem dX3_countLines_50 : decode cX3_countLines 50 = .ok (.aload_n 1, 1) := by decide +kernel
theorem dX3_countLines_51 : decode cX3_countLines 51 = .ok (.iload_n 2, 1) := by decide +kernel
theorem dX3_countLines_52 : decode cX3_countLines 52 = .ok (.iload 5, 2) := by decide +kernel
theorem dX3_countLines_54 : decode cX3_countLines 54 = .ok (.invokevirtual 23, 3) := by decide +kernel
theorem dX3_countLines_57 : decode cX3_countLines 57 = .ok (.ifCond .eq 25, 3) := by decide +kernel
theorem dX3_countLines_60 : decode cX3_countLines 60 = .ok (.aload_n 0, 1) := by decide +kernel
theorem dX3_countLines_61 : decode cX3_countLines 61 = .ok (.aload_n 1, 1) := by decide +kernel
theorem dX3_countLines_62 : decode cX3_countLines 62 = .ok (.iload_n 2, 1) := by decide +kernel
theorem dX3_countLines_63 : decode cX3_countLines 63 = .ok (.iload 5, 2) := by decide +kernel
theorem dX3_countLines_65 : decode cX3_countLines 65 = .ok (.invokevirtual 27, 3) := by decide +kernel
theorem dX3_countLines_68 : decode cX3_countLines 68 = .ok (.istore 6, 2) := by decide +kernel
theorem dX3_countLines_70 : decode cX3_countLines 70 = .ok (.iload 6, 2) := by decide +kernel
theorem dX3_countLines_72 : decode cX3_countLines 72 = .ok (.ifCond .ne 7, 3) := by decide +kernel
theorem dX3_countLines_75 : decode cX3_countLines 75 = .ok (.iload_n 3, 1) := by decide +kernel
theorem dX3_countLines_76 : decode cX3_countLines 76 = .ok (.ifCond .ne 6, 3) := by decide +kernel
theorem dX3_countLines_79 : decode cX3_countLines 79 = .ok (.iinc 4 1, 3) := by decide +kernel
theorem dX3_countLines_82 : decode cX3_countLines 82 = .ok (.iinc 5 1, 3) := by decide +kernel
theorem dX3_countLines_85 : decode cX3_countLines 85 = .ok (.goto (-54), 3) := by decide +kernel
theorem dX3_countLines_88 : decode cX3_countLines 88 = .ok (.iload 4, 2) := by decide +kernel
theorem dX3_countLines_90 : decode cX3_countLines 90 = .ok (.ireturn, 1) := by decide +kernel
theorem dX3_walkFrom_0 : decode cX3_walkFrom 0 = .ok (.iconst 1, 1) := by decide +kernel
theorem dX3_walkFrom_1 : decode cX3_walkFrom 1 = .ok (.istore 4, 2) := by decide +kernel
theorem dX3_walkFrom_3 : decode cX3_walkFrom 3 = .ok (.aload_n 0, 1) := by decide +kernel
theorem dX3_walkFrom_4 : decode cX3_walkFrom 4 = .ok (.iconst 0, 1) := by decide +kernel
theorem dX3_walkFrom_5 : decode cX3_walkFrom 5 = .ok (.putfield 19, 3) := by decide +kernel
theorem dX3_walkFrom_8 : decode cX3_walkFrom 8 = .ok (.aload_n 0, 1) := by decide +kernel
theorem dX3_walkFrom_9 : decode cX3_walkFrom 9 = .ok (.iload_n 3, 1) := by decide +kernel
theorem dX3_walkFrom_10 : decode cX3_walkFrom 10 = .ok (.invokevirtual 30, 3) := by decide +kernel
theorem dX3_walkFrom_13 : decode cX3_walkFrom 13 = .ok (.iconst 0, 1) := by decide +kernel
theorem dX3_walkFrom_14 : decode cX3_walkFrom 14 = .ok (.istore 5, 2) := by decide +kernel
theorem dX3_walkFrom_16 : decode cX3_walkFrom 16 = .ok (.iload 5, 2) := by decide +kernel
theorem dX3_walkFrom_18 : decode cX3_walkFrom 18 = .ok (.aload_n 0, 1) := by decide +kernel
theorem dX3_walkFrom_19 : decode cX3_walkFrom 19 = .ok (.getfield 19, 3) := by decide +kernel
theorem dX3_walkFrom_22 : decode cX3_walkFrom 22 = .ok (.if_icmp .ge 84, 3) := by decide +kernel
theorem dX3_walkFrom_25 : decode cX3_walkFrom 25 = .ok (.iload 5, 2) := by decide +kernel
theorem dX3_walkFrom_27 : decode cX3_walkFrom 27 = .ok (.sipush 450, 3) := by decide +kernel
theorem dX3_walkFrom_30 : decode cX3_walkFrom 30 = .ok (.if_icmp .ge 76, 3) := by decide +kernel
theorem dX3_walkFrom_33 : decode cX3_walkFrom 33 = .ok (.iconst 0, 1) := by decide +kernel
theorem dX3_walkFrom_34 : decode cX3_walkFrom 34 = .ok (.istore 6, 2) := by decide +kernel
theorem dX3_walkFrom_36 : decode cX3_walkFrom 36 = .ok (.iload 6, 2) := by decide +kernel
theorem dX3_walkFrom_38 : decode cX3_walkFrom 38 = .ok (.iconst 3, 1) := by decide +kernel
theorem dX3_walkFrom_39 : decode cX3_walkFrom 39 = .ok (.if_icmp .ge 61, 3) := by decide +kernel
theorem dX3_walkFrom_42 : decode cX3_walkFrom 42 = .ok (.aload_n 0, 1) := by decide +kernel
theorem dX3_walkFrom_43 : decode cX3_walkFrom 43 = .ok (.aload_n 1, 1) := by decide +kernel
theorem dX3_walkFrom_44 : decode cX3_walkFrom 44 = .ok (.iload_n 2, 1) := by decide +kernel
theorem dX3_walkFrom_45 : decode cX3_walkFrom 45 = .ok (.aload_n 0, 1) := by decide +kernel
theorem dX3_walkFrom_46 : decode cX3_walkFrom 46 = .ok (.getfield 15, 3) := by decide +kernel
theorem dX3_walkFrom_49 : decode cX3_walkFrom 49 = .ok (.iload 5, 2) := by decide +kernel
theorem dX3_walkFrom_51 : decode cX3_walkFrom 51 = .ok (.iaload, 1) := by decide +kernel
theorem dX3_walkFrom_52 : decode cX3_walkFrom 52 = .ok (.iload 6, 2) := by decide +kernel
theorem dX3_walkFrom_54 : decode cX3_walkFrom 54 = .ok (.invokevirtual 34, 3) := by decide +kernel
theorem dX3_walkFrom_57 : decode cX3_walkFrom 57 = .ok (.ifCond .eq 37, 3) := by decide +kernel
theorem dX3_walkFrom_60 : decode cX3_walkFrom 60 = .ok (.aload_n 0, 1) := by decide +kernel
theorem dX3_walkFrom_61 : decode cX3_walkFrom 61 = .ok (.aload_n 1, 1) := by decide +kernel
theorem dX3_walkFrom_62 : decode cX3_walkFrom 62 = .ok (.aload_n 0, 1) := by decide +kernel
theorem dX3_walkFrom_63 : decode cX3_walkFrom 63 = .ok (.getfield 15, 3) := by decide +kernel
theorem dX3_walkFrom_66 : decode cX3_walkFrom 66 = .ok (.iload 5, 2) := by decide +kernel
theorem dX3_walkFrom_68 : decode cX3_walkFrom 68 = .ok (.iaload, 1) := by decide +kernel
theorem dX3_walkFrom_69 : decode cX3_walkFrom 69 = .ok (.iload 6, 2) := by decide +kernel
theorem dX3_walkFrom_71 : decode cX3_walkFrom 71 = .ok (.invokevirtual 38, 3) := by decide +kernel
theorem dX3_walkFrom_74 : decode cX3_walkFrom 74 = .ok (.istore 7, 2) := by decide +kernel
theorem dX3_walkFrom_76 : decode cX3_walkFrom 76 = .ok (.iload 7, 2) := by decide +kernel
theorem dX3_walkFrom_78 : decode cX3_walkFrom 78 = .ok (.iconst (-1), 1) := by decide +kernel
theorem dX3_walkFrom_79 : decode cX3_walkFrom 79 = .ok (.if_icmp .ne 9, 3) := by decide +kernel
theorem dX3_walkFrom_82 : decode cX3_walkFrom 82 = .ok (.iconst 0, 1) := by decide +kernel
theorem dX3_walkFrom_83 : decode cX3_walkFrom 83 = .ok (.istore 4, 2) := by decide +kernel
theorem dX3_walkFrom_85 : decode cX3_walkFrom 85 = .ok (.goto 9, 3) := by decide +kernel
theorem dX3_walkFrom_88 : decode cX3_walkFrom 88 = .ok (.aload_n 0, 1) := by decide +kernel
theorem dX3_walkFrom_89 : decode cX3_walkFrom 89 = .ok (.iload 7, 2) := by decide +kernel
theorem dX3_walkFrom_91 : decode cX3_walkFrom 91 = .ok (.invokevirtual 30, 3) := by decide +kernel
theorem dX3_walkFrom_94 : decode cX3_walkFrom 94 = .ok (.iinc 6 1, 3) := by decide +kernel
theorem dX3_walkFrom_97 : decode cX3_walkFrom 97 = .ok (.goto (-61), 3) := by decide +kernel
theorem dX3_walkFrom_100 : decode cX3_walkFrom 100 = .ok (.iinc 5 1, 3) := by decide +kernel
theorem dX3_walkFrom_103 : decode cX3_walkFrom 103 = .ok (.goto (-87), 3) := by decide +kernel
theorem dX3_walkFrom_106 : decode cX3_walkFrom 106 = .ok (.iload 4, 2) := by decide +kernel
theorem dX3_walkFrom_108 : decode cX3_walkFrom 108 = .ok (.ireturn, 1) := by decide +kernel
theorem dX3_enqueue_0 : decode cX3_enqueue 0 = .ok (.aload_n 0, 1) := by decide +kernel
theorem dX3_enqueue_1 : decode cX3_enqueue 1 = .ok (.getfield 11, 3) := by decide +kernel
theorem dX3_enqueue_4 : decode cX3_enqueue 4 = .ok (.iload_n 1, 1) := by decide +kernel
theorem dX3_enqueue_5 : decode cX3_enqueue 5 = .ok (.baload, 1) := by decide +kernel
theorem dX3_enqueue_6 : decode cX3_enqueue 6 = .ok (.ifCond .ne 40, 3) := by decide +kernel
theorem dX3_enqueue_9 : decode cX3_enqueue 9 = .ok (.aload_n 0, 1) := by decide +kernel
theorem dX3_enqueue_10 : decode cX3_enqueue 10 = .ok (.getfield 19, 3) := by decide +kernel
theorem dX3_enqueue_13 : decode cX3_enqueue 13 = .ok (.sipush 450, 3) := by decide +kernel
theorem dX3_enqueue_16 : decode cX3_enqueue 16 = .ok (.if_icmp .ge 30, 3) := by decide +kernel
theorem dX3_enqueue_19 : decode cX3_enqueue 19 = .ok (.aload_n 0, 1) := by decide +kernel
theorem dX3_enqueue_20 : decode cX3_enqueue 20 = .ok (.getfield 11, 3) := by decide +kernel
theorem dX3_enqueue_23 : decode cX3_enqueue 23 = .ok (.iload_n 1, 1) := by decide +kernel
theorem dX3_enqueue_24 : decode cX3_enqueue 24 = .ok (.iconst 1, 1) := by decide +kernel
theorem dX3_enqueue_25 : decode cX3_enqueue 25 = .ok (.bastore, 1) := by decide +kernel
theorem dX3_enqueue_26 : decode cX3_enqueue 26 = .ok (.aload_n 0, 1) := by decide +kernel
theorem dX3_enqueue_27 : decode cX3_enqueue 27 = .ok (.getfield 15, 3) := by decide +kernel
theorem dX3_enqueue_30 : decode cX3_enqueue 30 = .ok (.aload_n 0, 1) := by decide +kernel
theorem dX3_enqueue_31 : decode cX3_enqueue 31 = .ok (.getfield 19, 3) := by decide +kernel
theorem dX3_enqueue_34 : decode cX3_enqueue 34 = .ok (.iload_n 1, 1) := by decide +kernel
theorem dX3_enqueue_35 : decode cX3_enqueue 35 = .ok (.iastore, 1) := by decide +kernel
theorem dX3_enqueue_36 : decode cX3_enqueue 36 = .ok (.aload_n 0, 1) := by decide +kernel
theorem dX3_enqueue_37 : decode cX3_enqueue 37 = .ok (.dup, 1) := by decide +kernel
theorem dX3_enqueue_38 : decode cX3_enqueue 38 = .ok (.getfield 19, 3) := by decide +kernel
theorem dX3_enqueue_41 : decode cX3_enqueue 41 = .ok (.iconst 1, 1) := by decide +kernel
theorem dX3_enqueue_42 : decode cX3_enqueue 42 = .ok (.iadd, 1) := by decide +kernel
theorem dX3_enqueue_43 : decode cX3_enqueue 43 = .ok (.putfield 19, 3) := by decide +kernel
theorem dX3_enqueue_46 : decode cX3_enqueue 46 = .ok (.return_, 1) := by decide +kernel
theorem dX3_isCrossed_0 : decode cX3_isCrossed 0 = .ok (.aload_n 1, 1) := by decide +kernel
theorem dX3_isCrossed_1 : decode cX3_isCrossed 1 = .ok (.aload_n 0, 1) := by decide +kernel
theorem dX3_isCrossed_2 : decode cX3_isCrossed 2 = .ok (.iload_n 3, 1) := by decide +kernel
theorem dX3_isCrossed_3 : decode cX3_isCrossed 3 = .ok (.invokevirtual 42, 3) := by decide +kernel
theorem dX3_isCrossed_6 : decode cX3_isCrossed 6 = .ok (.aload_n 0, 1) := by decide +kernel
theorem dX3_isCrossed_7 : decode cX3_isCrossed 7 = .ok (.iload_n 3, 1) := by decide +kernel
theorem dX3_isCrossed_8 : decode cX3_isCrossed 8 = .ok (.invokevirtual 46, 3) := by decide +kernel
theorem dX3_isCrossed_11 : decode cX3_isCrossed 11 = .ok (.invokevirtual 49, 3) := by decide +kernel
theorem dX3_isCrossed_14 : decode cX3_isCrossed 14 = .ok (.ifCond .ne 5, 3) := by decide +kernel
theorem dX3_isCrossed_17 : decode cX3_isCrossed 17 = .ok (.iconst 0, 1) := by decide +kernel
theorem dX3_isCrossed_18 : decode cX3_isCrossed 18 = .ok (.ireturn, 1) := by decide +kernel
theorem dX3_isCrossed_19 : decode cX3_isCrossed 19 = .ok (.aload_n 0, 1) := by decide +kernel
theorem dX3_isCrossed_20 : decode cX3_isCrossed 20 = .ok (.aload_n 1, 1) := by decide +kernel
theorem dX3_isCrossed_21 : decode cX3_isCrossed 21 = .ok (.iload_n 2, 1) := by decide +kernel
theorem dX3_isCrossed_22 : decode cX3_isCrossed 22 = .ok (.iload_n 3, 1) := by decide +kernel
theorem dX3_isCrossed_23 : decode cX3_isCrossed 23 = .ok (.iconst 0, 1) := by decide +kernel
theorem dX3_isCrossed_24 : decode cX3_isCrossed 24 = .ok (.invokevirtual 53, 3) := by decide +kernel
theorem dX3_isCrossed_27 : decode cX3_isCrossed 27 = .ok (.istore 4, 2) := by decide +kernel
theorem dX3_isCrossed_29 : decode cX3_isCrossed 29 = .ok (.aload_n 0, 1) := by decide +kernel
theorem dX3_isCrossed_30 : decode cX3_isCrossed 30 = .ok (.aload_n 1, 1) := by decide +kernel
theorem dX3_isCrossed_31 : decode cX3_isCrossed 31 = .ok (.iload_n 2, 1) := by decide +kernel
theorem dX3_isCrossed_32 : decode cX3_isCrossed 32 = .ok (.iload_n 3, 1) := by decide +kernel
theorem dX3_isCrossed_33 : decode cX3_isCrossed 33 = .ok (.iconst 1, 1) := by decide +kernel
theorem dX3_isCrossed_34 : decode cX3_isCrossed 34 = .ok (.invokevirtual 53, 3) := by decide +kernel
theorem dX3_isCrossed_37 : decode cX3_isCrossed 37 = .ok (.iload 4, 2) := by decide +kernel
theorem dX3_isCrossed_39 : decode cX3_isCrossed 39 = .ok (.if_icmp .ne 16, 3) := by decide +kernel
theorem dX3_isCrossed_42 : decode cX3_isCrossed 42 = .ok (.aload_n 0, 1) := by decide +kernel
theorem dX3_isCrossed_43 : decode cX3_isCrossed 43 = .ok (.aload_n 1, 1) := by decide +kernel
theorem dX3_isCrossed_44 : decode cX3_isCrossed 44 = .ok (.iload_n 2, 1) := by decide +kernel
theorem dX3_isCrossed_45 : decode cX3_isCrossed 45 = .ok (.iload_n 3, 1) := by decide +kernel
theorem dX3_isCrossed_46 : decode cX3_isCrossed 46 = .ok (.iconst 2, 1) := by decide +kernel
theorem dX3_isCrossed_47 : decode cX3_isCrossed 47 = .ok (.invokevirtual 53, 3) := by decide +kernel
theorem dX3_isCrossed_50 : decode cX3_isCrossed 50 = .ok (.iload 4, 2) := by decide +kernel
theorem dX3_isCrossed_52 : decode cX3_isCrossed 52 = .ok (.if_icmp .eq 7, 3) := by decide +kernel
theorem dX3_isCrossed_55 : decode cX3_isCrossed 55 = .ok (.iconst 1, 1) := by decide +kernel
theorem dX3_isCrossed_56 : decode cX3_isCrossed 56 = .ok (.goto 4, 3) := by decide +kernel
theorem dX3_isCrossed_59 : decode cX3_isCrossed 59 = .ok (.iconst 0, 1) := by decide +kernel
theorem dX3_isCrossed_60 : decode cX3_isCrossed 60 = .ok (.ireturn, 1) := by decide +kernel
theorem dX3_isEdgeCrossed_0 : decode cX3_isEdgeCrossed 0 = .ok (.aload_n 0, 1) := by decide +kernel
theorem dX3_isEdgeCrossed_1 : decode cX3_isEdgeCrossed 1 = .ok (.aload_n 1, 1) := by decide +kernel
theorem dX3_isEdgeCrossed_2 : decode cX3_isEdgeCrossed 2 = .ok (.iload_n 2, 1) := by decide +kernel
theorem dX3_isEdgeCrossed_3 : decode cX3_isEdgeCrossed 3 = .ok (.iload_n 3, 1) := by decide +kernel
theorem dX3_isEdgeCrossed_4 : decode cX3_isEdgeCrossed 4 = .ok (.iload 4, 2) := by decide +kernel
theorem dX3_isEdgeCrossed_6 : decode cX3_isEdgeCrossed 6 = .ok (.invokevirtual 53, 3) := by decide +kernel
theorem dX3_isEdgeCrossed_9 : decode cX3_isEdgeCrossed 9 = .ok (.aload_n 0, 1) := by decide +kernel
theorem dX3_isEdgeCrossed_10 : decode cX3_isEdgeCrossed 10 = .ok (.aload_n 1, 1) := by decide +kernel
theorem dX3_isEdgeCrossed_11 : decode cX3_isEdgeCrossed 11 = .ok (.iload_n 2, 1) := by decide +kernel
theorem dX3_isEdgeCrossed_12 : decode cX3_isEdgeCrossed 12 = .ok (.iload_n 3, 1) := by decide +kernel
theorem dX3_isEdgeCrossed_13 : decode cX3_isEdgeCrossed 13 = .ok (.iload 4, 2) := by decide +kernel
theorem dX3_isEdgeCrossed_15 : decode cX3_isEdgeCrossed 15 = .ok (.iconst 1, 1) := by decide +kernel
theorem dX3_isEdgeCrossed_16 : decode cX3_isEdgeCrossed 16 = .ok (.iadd, 1) := by decide +kernel
theorem dX3_isEdgeCrossed_17 : decode cX3_isEdgeCrossed 17 = .ok (.iconst 3, 1) := by decide +kernel
theorem dX3_isEdgeCrossed_18 : decode cX3_isEdgeCrossed 18 = .ok (.irem, 1) := by decide +kernel
theorem dX3_isEdgeCrossed_19 : decode cX3_isEdgeCrossed 19 = .ok (.invokevirtual 53, 3) := by decide +kernel
theorem dX3_isEdgeCrossed_22 : decode cX3_isEdgeCrossed 22 = .ok (.if_icmp .eq 7, 3) := by decide +kernel
theorem dX3_isEdgeCrossed_25 : decode cX3_isEdgeCrossed 25 = .ok (.iconst 1, 1) := by decide +kernel
theorem dX3_isEdgeCrossed_26 : decode cX3_isEdgeCrossed 26 = .ok (.goto 4, 3) := by decide +kernel
theorem dX3_isEdgeCrossed_29 : decode cX3_isEdgeCrossed 29 = .ok (.iconst 0, 1) := by decide +kernel
theorem dX3_isEdgeCrossed_30 : decode cX3_isEdgeCrossed 30 = .ok (.ireturn, 1) := by decide +kernel
theorem dX3_isAbove_0 : decode cX3_isAbove 0 = .ok (.aload_n 0, 1) := by decide +kernel
theorem dX3_isAbove_1 : decode cX3_isAbove 1 = .ok (.iload_n 3, 1) := by decide +kernel
theorem dX3_isAbove_2 : decode cX3_isAbove 2 = .ok (.invokevirtual 42, 3) := by decide +kernel
theorem dX3_isAbove_5 : decode cX3_isAbove 5 = .ok (.istore 5, 2) := by decide +kernel
theorem dX3_isAbove_7 : decode cX3_isAbove 7 = .ok (.aload_n 0, 1) := by decide +kernel
theorem dX3_isAbove_8 : decode cX3_isAbove 8 = .ok (.iload_n 3, 1) := by decide +kernel
theorem dX3_isAbove_9 : decode cX3_isAbove 9 = .ok (.invokevirtual 46, 3) := by decide +kernel
theorem dX3_isAbove_12 : decode cX3_isAbove 12 = .ok (.istore 6, 2) := by decide +kernel
theorem dX3_isAbove_14 : decode cX3_isAbove 14 = .ok (.iload 4, 2) := by decide +kernel
theorem dX3_isAbove_16 : decode cX3_isAbove 16 = .ok (.iconst 2, 1) := by decide +kernel
theorem dX3_isAbove_17 : decode cX3_isAbove 17 = .ok (.if_icmp .eq 17, 3) := by decide +kernel
theorem dX3_isAbove_20 : decode cX3_isAbove 20 = .ok (.iload 4, 2) := by decide +kernel
theorem dX3_isAbove_22 : decode cX3_isAbove 22 = .ok (.iconst 1, 1) := by decide +kernel
theorem dX3_isAbove_23 : decode cX3_isAbove 23 = .ok (.if_icmp .ne 14, 3) := by decide +kernel
theorem dX3_isAbove_26 : decode cX3_isAbove 26 = .ok (.aload_n 0, 1) := by decide +kernel
theorem dX3_isAbove_27 : decode cX3_isAbove 27 = .ok (.iload_n 3, 1) := by decide +kernel
theorem dX3_isAbove_28 : decode cX3_isAbove 28 = .ok (.invokevirtual 56, 3) := by decide +kernel
theorem dX3_isAbove_31 : decode cX3_isAbove 31 = .ok (.ifCond .ne 6, 3) := by decide +kernel
theorem dX3_isAbove_34 : decode cX3_isAbove 34 = .ok (.iinc 5 1, 3) := by decide +kernel
theorem dX3_isAbove_37 : decode cX3_isAbove 37 = .ok (.iload 4, 2) := by decide +kernel
theorem dX3_isAbove_39 : decode cX3_isAbove 39 = .ok (.iconst 2, 1) := by decide +kernel
theorem dX3_isAbove_40 : decode cX3_isAbove 40 = .ok (.if_icmp .eq 17, 3) := by decide +kernel
theorem dX3_isAbove_43 : decode cX3_isAbove 43 = .ok (.iload 4, 2) := by decide +kernel
theorem dX3_isAbove_45 : decode cX3_isAbove 45 = .ok (.iconst 1, 1) := by decide +kernel
theorem dX3_isAbove_46 : decode cX3_isAbove 46 = .ok (.if_icmp .ne 14, 3) := by decide +kernel
theorem dX3_isAbove_49 : decode cX3_isAbove 49 = .ok (.aload_n 0, 1) := by decide +kernel
theorem dX3_isAbove_50 : decode cX3_isAbove 50 = .ok (.iload_n 3, 1) := by decide +kernel
theorem dX3_isAbove_51 : decode cX3_isAbove 51 = .ok (.invokevirtual 56, 3) := by decide +kernel
theorem dX3_isAbove_54 : decode cX3_isAbove 54 = .ok (.ifCond .eq 6, 3) := by decide +kernel
theorem dX3_isAbove_57 : decode cX3_isAbove 57 = .ok (.iinc 6 1, 3) := by decide +kernel
theorem dX3_isAbove_60 : decode cX3_isAbove 60 = .ok (.aload_n 1, 1) := by decide +kernel
theorem dX3_isAbove_61 : decode cX3_isAbove 61 = .ok (.iload 5, 2) := by decide +kernel
theorem dX3_isAbove_63 : decode cX3_isAbove 63 = .ok (.iload 6, 2) := by decide +kernel
theorem dX3_isAbove_65 : decode cX3_isAbove 65 = .ok (.invokevirtual 60, 3) := by decide +kernel
theorem dX3_isAbove_68 : decode cX3_isAbove 68 = .ok (.iload_n 2, 1) := by decide +kernel
theorem dX3_isAbove_69 : decode cX3_isAbove 69 = .ok (.if_icmp .lt 7, 3) := by decide +kernel
theorem dX3_isAbove_72 : decode cX3_isAbove 72 = .ok (.iconst 1, 1) := by decide +kernel
theorem dX3_isAbove_73 : decode cX3_isAbove 73 = .ok (.goto 4, 3) := by decide +kernel
theorem dX3_isAbove_76 : decode cX3_isAbove 76 = .ok (.iconst 0, 1) := by decide +kernel
theorem dX3_isAbove_77 : decode cX3_isAbove 77 = .ok (.ireturn, 1) := by decide +kernel
theorem dX3_beyond_0 : decode cX3_beyond 0 = .ok (.aload_n 0, 1) := by decide +kernel
theorem dX3_beyond_1 : decode cX3_beyond 1 = .ok (.iload_n 2, 1) := by decide +kernel
theorem dX3_beyond_2 : decode cX3_beyond 2 = .ok (.invokevirtual 42, 3) := by decide +kernel
theorem dX3_beyond_5 : decode cX3_beyond 5 = .ok (.istore 4, 2) := by decide +kernel
theorem dX3_beyond_7 : decode cX3_beyond 7 = .ok (.aload_n 0, 1) := by decide +kernel
theorem dX3_beyond_8 : decode cX3_beyond 8 = .ok (.iload_n 2, 1) := by decide +kernel
theorem dX3_beyond_9 : decode cX3_beyond 9 = .ok (.invokevirtual 46, 3) := by decide +kernel
theorem dX3_beyond_12 : decode cX3_beyond 12 = .ok (.istore 5, 2) := by decide +kernel
theorem dX3_beyond_14 : decode cX3_beyond 14 = .ok (.aload_n 0, 1) := by decide +kernel
theorem dX3_beyond_15 : decode cX3_beyond 15 = .ok (.iload_n 2, 1) := by decide +kernel
theorem dX3_beyond_16 : decode cX3_beyond 16 = .ok (.invokevirtual 56, 3) := by decide +kernel
theorem dX3_beyond_19 : decode cX3_beyond 19 = .ok (.istore 6, 2) := by decide +kernel
theorem dX3_beyond_21 : decode cX3_beyond 21 = .ok (.iload_n 3, 1) := by decide +kernel
theorem dX3_beyond_22 : decode cX3_beyond 22 = .ok (.ifCond .ne 36, 3) := by decide +kernel
theorem dX3_beyond_25 : decode cX3_beyond 25 = .ok (.iload 6, 2) := by decide +kernel
theorem dX3_beyond_27 : decode cX3_beyond 27 = .ok (.ifCond .eq 18, 3) := by decide +kernel
theorem dX3_beyond_30 : decode cX3_beyond 30 = .ok (.aload_n 0, 1) := by decide +kernel
theorem dX3_beyond_31 : decode cX3_beyond 31 = .ok (.aload_n 1, 1) := by decide +kernel
theorem dX3_beyond_32 : decode cX3_beyond 32 = .ok (.iload 4, 2) := by decide +kernel
theorem dX3_beyond_34 : decode cX3_beyond 34 = .ok (.iconst 1, 1) := by decide +kernel
theorem dX3_beyond_35 : decode cX3_beyond 35 = .ok (.isub, 1) := by decide +kernel
theorem dX3_beyond_36 : decode cX3_beyond 36 = .ok (.iload 5, 2) := by decide +kernel
theorem dX3_beyond_38 : decode cX3_beyond 38 = .ok (.iconst 0, 1) := by decide +kernel
theorem dX3_beyond_39 : decode cX3_beyond 39 = .ok (.invokevirtual 64, 3) := by decide +kernel
theorem dX3_beyond_42 : decode cX3_beyond 42 = .ok (.goto 15, 3) := by decide +kernel
theorem dX3_beyond_45 : decode cX3_beyond 45 = .ok (.aload_n 0, 1) := by decide +kernel
theorem dX3_beyond_46 : decode cX3_beyond 46 = .ok (.aload_n 1, 1) := by decide +kernel
theorem dX3_beyond_47 : decode cX3_beyond 47 = .ok (.iload 4, 2) := by decide +kernel
theorem dX3_beyond_49 : decode cX3_beyond 49 = .ok (.iload 5, 2) := by decide +kernel
theorem dX3_beyond_51 : decode cX3_beyond 51 = .ok (.iconst 1, 1) := by decide +kernel
theorem dX3_beyond_52 : decode cX3_beyond 52 = .ok (.isub, 1) := by decide +kernel
theorem dX3_beyond_53 : decode cX3_beyond 53 = .ok (.iconst 1, 1) := by decide +kernel
theorem dX3_beyond_54 : decode cX3_beyond 54 = .ok (.invokevirtual 64, 3) := by decide +kernel
theorem dX3_beyond_57 : decode cX3_beyond 57 = .ok (.ireturn, 1) := by decide +kernel
theorem dX3_beyond_58 : decode cX3_beyond 58 = .ok (.iload_n 3, 1) := by decide +kernel
theorem dX3_beyond_59 : decode cX3_beyond 59 = .ok (.iconst 1, 1) := by decide +kernel
theorem dX3_beyond_60 : decode cX3_beyond 60 = .ok (.if_icmp .ne 36, 3) := by decide +kernel
theorem dX3_beyond_63 : decode cX3_beyond 63 = .ok (.iload 6, 2) := by decide +kernel
theorem dX3_beyond_65 : decode cX3_beyond 65 = .ok (.ifCond .eq 18, 3) := by decide +kernel
theorem dX3_beyond_68 : decode cX3_beyond 68 = .ok (.aload_n 0, 1) := by decide +kernel
theorem dX3_beyond_69 : decode cX3_beyond 69 = .ok (.aload_n 1, 1) := by decide +kernel
theorem dX3_beyond_70 : decode cX3_beyond 70 = .ok (.iload 4, 2) := by decide +kernel
theorem dX3_beyond_72 : decode cX3_beyond 72 = .ok (.iload 5, 2) := by decide +kernel
theorem dX3_beyond_74 : decode cX3_beyond 74 = .ok (.iconst 1, 1) := by decide +kernel
theorem dX3_beyond_75 : decode cX3_beyond 75 = .ok (.iadd, 1) := by decide +kernel
theorem dX3_beyond_76 : decode cX3_beyond 76 = .ok (.iconst 0, 1) := by decide +kernel
theorem dX3_beyond_77 : decode cX3_beyond 77 = .ok (.invokevirtual 64, 3) := by decide +kernel
theorem dX3_beyond_80 : decode cX3_beyond 80 = .ok (.goto 15, 3) := by decide +kernel
theorem dX3_beyond_83 : decode cX3_beyond 83 = .ok (.aload_n 0, 1) := by decide +kernel
theorem dX3_beyond_84 : decode cX3_beyond 84 = .ok (.aload_n 1, 1) := by decide +kernel
theorem dX3_beyond_85 : decode cX3_beyond 85 = .ok (.iload 4, 2) := by decide +kernel
theorem dX3_beyond_87 : decode cX3_beyond 87 = .ok (.iconst 1, 1) := by decide +kernel
theorem dX3_beyond_88 : decode cX3_beyond 88 = .ok (.iadd, 1) := by decide +kernel
theorem dX3_beyond_89 : decode cX3_beyond 89 = .ok (.iload 5, 2) := by decide +kernel
theorem dX3_beyond_91 : decode cX3_beyond 91 = .ok (.iconst 1, 1) := by decide +kernel
theorem dX3_beyond_92 : decode cX3_beyond 92 = .ok (.invokevirtual 64, 3) := by decide +kernel
theorem dX3_beyond_95 : decode cX3_beyond 95 = .ok (.ireturn, 1) := by decide +kernel
theorem dX3_beyond_96 : decode cX3_beyond 96 = .ok (.aload_n 0, 1) := by decide +kernel
theorem dX3_beyond_97 : decode cX3_beyond 97 = .ok (.aload_n 1, 1) := by decide +kernel
theorem dX3_beyond_98 : decode cX3_beyond 98 = .ok (.iload 4, 2) := by decide +kernel
theorem dX3_beyond_100 : decode cX3_beyond 100 = .ok (.iload 5, 2) := by decide +kernel
theorem dX3_beyond_102 : decode cX3_beyond 102 = .ok (.iload 6, 2) := by decide +kernel
theorem dX3_beyond_104 : decode cX3_beyond 104 = .ok (.ifCond .eq 7, 3) := by decide +kernel
theorem dX3_beyond_107 : decode cX3_beyond 107 = .ok (.iconst 0, 1) := by decide +kernel
theorem dX3_beyond_108 : decode cX3_beyond 108 = .ok (.goto 4, 3) := by decide +kernel
theorem dX3_beyond_111 : decode cX3_beyond 111 = .ok (.iconst 1, 1) := by decide +kernel
theorem dX3_beyond_112 : decode cX3_beyond 112 = .ok (.invokevirtual 64, 3) := by decide +kernel
theorem dX3_beyond_115 : decode cX3_beyond 115 = .ok (.ireturn, 1) := by decide +kernel
theorem dX3_thirdAt_0 : decode cX3_thirdAt 0 = .ok (.aload_n 1, 1) := by decide +kernel
theorem dX3_thirdAt_1 : decode cX3_thirdAt 1 = .ok (.iload_n 2, 1) := by decide +kernel
theorem dX3_thirdAt_2 : decode cX3_thirdAt 2 = .ok (.iload_n 3, 1) := by decide +kernel
theorem dX3_thirdAt_3 : decode cX3_thirdAt 3 = .ok (.invokevirtual 49, 3) := by decide +kernel
theorem dX3_thirdAt_6 : decode cX3_thirdAt 6 = .ok (.ifCond .eq 17, 3) := by decide +kernel
theorem dX3_thirdAt_9 : decode cX3_thirdAt 9 = .ok (.iconst 2, 1) := by decide +kernel
theorem dX3_thirdAt_10 : decode cX3_thirdAt 10 = .ok (.iload_n 2, 1) := by decide +kernel
theorem dX3_thirdAt_11 : decode cX3_thirdAt 11 = .ok (.bipush 15, 2) := by decide +kernel
theorem dX3_thirdAt_13 : decode cX3_thirdAt 13 = .ok (.iload_n 3, 1) := by decide +kernel
theorem dX3_thirdAt_14 : decode cX3_thirdAt 14 = .ok (.imul, 1) := by decide +kernel
theorem dX3_thirdAt_15 : decode cX3_thirdAt 15 = .ok (.iadd, 1) := by decide +kernel
theorem dX3_thirdAt_16 : decode cX3_thirdAt 16 = .ok (.imul, 1) := by decide +kernel
theorem dX3_thirdAt_17 : decode cX3_thirdAt 17 = .ok (.iload 4, 2) := by decide +kernel
theorem dX3_thirdAt_19 : decode cX3_thirdAt 19 = .ok (.iadd, 1) := by decide +kernel
theorem dX3_thirdAt_20 : decode cX3_thirdAt 20 = .ok (.goto 4, 3) := by decide +kernel
theorem dX3_thirdAt_23 : decode cX3_thirdAt 23 = .ok (.iconst (-1), 1) := by decide +kernel
theorem dX3_thirdAt_24 : decode cX3_thirdAt 24 = .ok (.ireturn, 1) := by decide +kernel
theorem dX3_column_0 : decode cX3_column 0 = .ok (.iload_n 1, 1) := by decide +kernel
theorem dX3_column_1 : decode cX3_column 1 = .ok (.iconst 2, 1) := by decide +kernel
theorem dX3_column_2 : decode cX3_column 2 = .ok (.idiv, 1) := by decide +kernel
theorem dX3_column_3 : decode cX3_column 3 = .ok (.bipush 15, 2) := by decide +kernel
theorem dX3_column_5 : decode cX3_column 5 = .ok (.irem, 1) := by decide +kernel
theorem dX3_column_6 : decode cX3_column 6 = .ok (.ireturn, 1) := by decide +kernel
theorem dX3_row_0 : decode cX3_row 0 = .ok (.iload_n 1, 1) := by decide +kernel
theorem dX3_row_1 : decode cX3_row 1 = .ok (.iconst 2, 1) := by decide +kernel
theorem dX3_row_2 : decode cX3_row 2 = .ok (.idiv, 1) := by decide +kernel
theorem dX3_row_3 : decode cX3_row 3 = .ok (.bipush 15, 2) := by decide +kernel
theorem dX3_row_5 : decode cX3_row 5 = .ok (.idiv, 1) := by decide +kernel
theorem dX3_row_6 : decode cX3_row 6 = .ok (.ireturn, 1) := by decide +kernel
theorem dX3_isUpper_0 : decode cX3_isUpper 0 = .ok (.iload_n 1, 1) := by decide +kernel
theorem dX3_isUpper_1 : decode cX3_isUpper 1 = .ok (.iconst 2, 1) := by decide +kernel
theorem dX3_isUpper_2 : decode cX3_isUpper 2 = .ok (.irem, 1) := by decide +kernel
theorem dX3_isUpper_3 : decode cX3_isUpper 3 = .ok (.iconst 1, 1) := by decide +kernel
theorem dX3_isUpper_4 : decode cX3_isUpper 4 = .ok (.if_icmp .ne 7, 3) := by decide +kernel
theorem dX3_isUpper_7 : decode cX3_isUpper 7 = .ok (.iconst 1, 1) := by decide +kernel
theorem dX3_isUpper_8 : decode cX3_isUpper 8 = .ok (.goto 4, 3) := by decide +kernel
theorem dX3_isUpper_11 : decode cX3_isUpper 11 = .ok (.iconst 0, 1) := by decide +kernel
theorem dX3_isUpper_12 : decode cX3_isUpper 12 = .ok (.ireturn, 1) := by decide +kernel
theorem dX4_init_0 : decode cX4_init 0 = .ok (.aload_n 0, 1) := by decide +kernel
theorem dX4_init_1 : decode cX4_init 1 = .ok (.invokespecial 3, 3) := by decide +kernel
theorem dX4_init_4 : decode cX4_init 4 = .ok (.aload_n 0, 1) := by decide +kernel
theorem dX4_init_5 : decode cX4_init 5 = .ok (.bipush 40, 2) := by decide +kernel
theorem dX4_init_7 : decode cX4_init 7 = .ok (.newarray .int, 2) := by decide +kernel
theorem dX4_init_9 : decode cX4_init 9 = .ok (.putfield 11, 3) := by decide +kernel
theorem dX4_init_12 : decode cX4_init 12 = .ok (.aload_n 0, 1) := by decide +kernel
theorem dX4_init_13 : decode cX4_init 13 = .ok (.bipush 40, 2) := by decide +kernel
theorem dX4_init_15 : decode cX4_init 15 = .ok (.newarray .int, 2) := by decide +kernel
theorem dX4_init_17 : decode cX4_init 17 = .ok (.putfield 15, 3) := by decide +kernel
theorem dX4_init_20 : decode cX4_init 20 = .ok (.aload_n 0, 1) := by decide +kernel
theorem dX4_init_21 : decode cX4_init 21 = .ok (.bipush 40, 2) := by decide +kernel
theorem dX4_init_23 : decode cX4_init 23 = .ok (.newarray .int, 2) := by decide +kernel
theorem dX4_init_25 : decode cX4_init 25 = .ok (.putfield 18, 3) := by decide +kernel
theorem dX4_init_28 : decode cX4_init 28 = .ok (.aload_n 0, 1) := by decide +kernel
theorem dX4_init_29 : decode cX4_init 29 = .ok (.bipush 40, 2) := by decide +kernel
theorem dX4_init_31 : decode cX4_init 31 = .ok (.newarray .int, 2) := by decide +kernel
theorem dX4_init_33 : decode cX4_init 33 = .ok (.putfield 21, 3) := by decide +kernel
theorem dX4_init_36 : decode cX4_init 36 = .ok (.aload_n 0, 1) := by decide +kernel
theorem dX4_init_37 : decode cX4_init 37 = .ok (.iconst 0, 1) := by decide +kernel
theorem dX4_init_38 : decode cX4_init 38 = .ok (.putfield 24, 3) := by decide +kernel
theorem dX4_init_41 : decode cX4_init 41 = .ok (.aload_n 0, 1) := by decide +kernel
theorem dX4_init_42 : decode cX4_init 42 = .ok (.iconst 0, 1) := by decide +kernel
theorem dX4_init_43 : decode cX4_init 43 = .ok (.putfield 28, 3) := by decide +kernel
theorem dX4_init_46 : decode cX4_init 46 = .ok (.aload_n 0, 1) := by decide +kernel
theorem dX4_init_47 : decode cX4_init 47 = .ok (.lconst 0, 1) := by decide +kernel
theorem dX4_init_48 : decode cX4_init 48 = .ok (.putfield 31, 3) := by decide +kernel
theorem dX4_init_51 : decode cX4_init 51 = .ok (.aload_n 0, 1) := by decide +kernel
theorem dX4_init_52 : decode cX4_init 52 = .ok (.lconst 0, 1) := by decide +kernel
theorem dX4_init_53 : decode cX4_init 53 = .ok (.putfield 35, 3) := by decide +kernel
theorem dX4_init_56 : decode cX4_init 56 = .ok (.aload_n 0, 1) := by decide +kernel
theorem dX4_init_57 : decode cX4_init 57 = .ok (.lconst 0, 1) := by decide +kernel
theorem dX4_init_58 : decode cX4_init 58 = .ok (.putfield 38, 3) := by decide +kernel
theorem dX4_init_61 : decode cX4_init 61 = .ok (.aload_n 0, 1) := by decide +kernel
theorem dX4_init_62 : decode cX4_init 62 = .ok (.iconst 0, 1) := by decide +kernel
theorem dX4_init_63 : decode cX4_init 63 = .ok (.putfield 41, 3) := by decide +kernel
theorem dX4_init_66 : decode cX4_init 66 = .ok (.aload_n 0, 1) := by decide +kernel
theorem dX4_init_67 : decode cX4_init 67 = .ok (.iconst 0, 1) := by decide +kernel
theorem dX4_init_68 : decode cX4_init 68 = .ok (.putfield 44, 3) := by decide +kernel
theorem dX4_init_71 : decode cX4_init 71 = .ok (.aload_n 0, 1) := by decide +kernel
theorem dX4_init_72 : decode cX4_init 72 = .ok (.iconst 0, 1) := by decide +kernel
theorem dX4_init_73 : decode cX4_init 73 = .ok (.putfield 47, 3) := by decide +kernel
theorem dX4_init_76 : decode cX4_init 76 = .ok (.aload_n 0, 1) := by decide +kernel
theorem dX4_init_77 : decode cX4_init 77 = .ok (.iconst 0, 1) := by decide +kernel
theorem dX4_init_78 : decode cX4_init 78 = .ok (.putfield 50, 3) := by decide +kernel
theorem dX4_init_81 : decode cX4_init 81 = .ok (.return_, 1) := by decide +kernel
theorem dX5_init_0 : decode cX5_init 0 = .ok (.aload_n 0, 1) := by decide +kernel
theorem dX5_init_1 : decode cX5_init 1 = .ok (.invokespecial 1, 3) := by decide +kernel
theorem dX5_init_4 : decode cX5_init 4 = .ok (.aload_n 0, 1) := by decide +kernel
theorem dX5_init_5 : decode cX5_init 5 = .ok (.bipush 40, 2) := by decide +kernel
theorem dX5_init_7 : decode cX5_init 7 = .ok (.newarray .int, 2) := by decide +kernel
theorem dX5_init_9 : decode cX5_init 9 = .ok (.putfield 9, 3) := by decide +kernel
theorem dX5_init_12 : decode cX5_init 12 = .ok (.aload_n 0, 1) := by decide +kernel
theorem dX5_init_13 : decode cX5_init 13 = .ok (.iconst (-1), 1) := by decide +kernel
theorem dX5_init_14 : decode cX5_init 14 = .ok (.putfield 13, 3) := by decide +kernel
theorem dX5_init_17 : decode cX5_init 17 = .ok (.aload_n 0, 1) := by decide +kernel
theorem dX5_init_18 : decode cX5_init 18 = .ok (.iconst 0, 1) := by decide +kernel
theorem dX5_init_19 : decode cX5_init 19 = .ok (.putfield 17, 3) := by decide +kernel
theorem dX5_init_22 : decode cX5_init 22 = .ok (.return_, 1) := by decide +kernel
theorem dX5_holds_0 : decode cX5_holds 0 = .ok (.aload_n 0, 1) := by decide +kernel
theorem dX5_holds_1 : decode cX5_holds 1 = .ok (.getfield 13, 3) := by decide +kernel
theorem dX5_holds_4 : decode cX5_holds 4 = .ok (.iconst (-1), 1) := by decide +kernel
theorem dX5_holds_5 : decode cX5_holds 5 = .ok (.if_icmp .eq 7, 3) := by decide +kernel
theorem dX5_holds_8 : decode cX5_holds 8 = .ok (.iconst 1, 1) := by decide +kernel
theorem dX5_holds_9 : decode cX5_holds 9 = .ok (.goto 4, 3) := by decide +kernel
theorem dX5_holds_12 : decode cX5_holds 12 = .ok (.iconst 0, 1) := by decide +kernel
theorem dX5_holds_13 : decode cX5_holds 13 = .ok (.ireturn, 1) := by decide +kernel
theorem dX5_renew_0 : decode cX5_renew 0 = .ok (.aload_n 0, 1) := by decide +kernel
theorem dX5_renew_1 : decode cX5_renew 1 = .ok (.getfield 9, 3) := by decide +kernel
theorem dX5_renew_4 : decode cX5_renew 4 = .ok (.iconst 0, 1) := by decide +kernel
theorem dX5_renew_5 : decode cX5_renew 5 = .ok (.invokestatic 20, 3) := by decide +kernel
theorem dX5_renew_8 : decode cX5_renew 8 = .ok (.aload_n 0, 1) := by decide +kernel
theorem dX5_renew_9 : decode cX5_renew 9 = .ok (.iload_n 1, 1) := by decide +kernel
theorem dX5_renew_10 : decode cX5_renew 10 = .ok (.putfield 13, 3) := by decide +kernel
theorem dX5_renew_13 : decode cX5_renew 13 = .ok (.aload_n 0, 1) := by decide +kernel
theorem dX5_renew_14 : decode cX5_renew 14 = .ok (.iload_n 2, 1) := by decide +kernel
theorem dX5_renew_15 : decode cX5_renew 15 = .ok (.putfield 17, 3) := by decide +kernel
theorem dX5_renew_18 : decode cX5_renew 18 = .ok (.return_, 1) := by decide +kernel
theorem dX5_hasRange_0 : decode cX5_hasRange 0 = .ok (.iload_n 1, 1) := by decide +kernel
theorem dX5_hasRange_1 : decode cX5_hasRange 1 = .ok (.ifCond .lt 25, 3) := by decide +kernel
theorem dX5_hasRange_4 : decode cX5_hasRange 4 = .ok (.iload_n 2, 1) := by decide +kernel
theorem dX5_hasRange_5 : decode cX5_hasRange 5 = .ok (.ifCond .lt 21, 3) := by decide +kernel
theorem dX5_hasRange_8 : decode cX5_hasRange 8 = .ok (.iload_n 1, 1) := by decide +kernel
theorem dX5_hasRange_9 : decode cX5_hasRange 9 = .ok (.i2l, 1) := by decide +kernel
theorem dX5_hasRange_10 : decode cX5_hasRange 10 = .ok (.iload_n 2, 1) := by decide +kernel
theorem dX5_hasRange_11 : decode cX5_hasRange 11 = .ok (.i2l, 1) := by decide +kernel
theorem dX5_hasRange_12 : decode cX5_hasRange 12 = .ok (.ladd, 1) := by decide +kernel
theorem dX5_hasRange_13 : decode cX5_hasRange 13 = .ok (.aload_n 0, 1) := by decide +kernel
theorem dX5_hasRange_14 : decode cX5_hasRange 14 = .ok (.getfield 17, 3) := by decide +kernel
theorem dX5_hasRange_17 : decode cX5_hasRange 17 = .ok (.i2l, 1) := by decide +kernel
theorem dX5_hasRange_18 : decode cX5_hasRange 18 = .ok (.lcmp, 1) := by decide +kernel
theorem dX5_hasRange_19 : decode cX5_hasRange 19 = .ok (.ifCond .gt 7, 3) := by decide +kernel
theorem dX5_hasRange_22 : decode cX5_hasRange 22 = .ok (.iconst 1, 1) := by decide +kernel
theorem dX5_hasRange_23 : decode cX5_hasRange 23 = .ok (.goto 4, 3) := by decide +kernel
theorem dX5_hasRange_26 : decode cX5_hasRange 26 = .ok (.iconst 0, 1) := by decide +kernel
theorem dX5_hasRange_27 : decode cX5_hasRange 27 = .ok (.ireturn, 1) := by decide +kernel
theorem dX5_put_0 : decode cX5_put 0 = .ok (.aload_n 0, 1) := by decide +kernel
theorem dX5_put_1 : decode cX5_put 1 = .ok (.getfield 13, 3) := by decide +kernel
theorem dX5_put_4 : decode cX5_put 4 = .ok (.ifCond .ne 14, 3) := by decide +kernel
theorem dX5_put_7 : decode cX5_put 7 = .ok (.aload_n 0, 1) := by decide +kernel
theorem dX5_put_8 : decode cX5_put 8 = .ok (.getfield 9, 3) := by decide +kernel
theorem dX5_put_11 : decode cX5_put 11 = .ok (.iload_n 1, 1) := by decide +kernel
theorem dX5_put_12 : decode cX5_put 12 = .ok (.iload_n 2, 1) := by decide +kernel
theorem dX5_put_13 : decode cX5_put 13 = .ok (.i2b, 1) := by decide +kernel
theorem dX5_put_14 : decode cX5_put 14 = .ok (.iastore, 1) := by decide +kernel
theorem dX5_put_15 : decode cX5_put 15 = .ok (.goto 29, 3) := by decide +kernel
theorem dX5_put_18 : decode cX5_put 18 = .ok (.aload_n 0, 1) := by decide +kernel
theorem dX5_put_19 : decode cX5_put 19 = .ok (.getfield 13, 3) := by decide +kernel
theorem dX5_put_22 : decode cX5_put 22 = .ok (.iconst 1, 1) := by decide +kernel
theorem dX5_put_23 : decode cX5_put 23 = .ok (.if_icmp .ne 14, 3) := by decide +kernel
theorem dX5_put_26 : decode cX5_put 26 = .ok (.aload_n 0, 1) := by decide +kernel
theorem dX5_put_27 : decode cX5_put 27 = .ok (.getfield 9, 3) := by decide +kernel
theorem dX5_put_30 : decode cX5_put 30 = .ok (.iload_n 1, 1) := by decide +kernel
theorem dX5_put_31 : decode cX5_put 31 = .ok (.iload_n 2, 1) := by decide +kernel
theorem dX5_put_32 : decode cX5_put 32 = .ok (.i2s, 1) := by decide +kernel
theorem dX5_put_33 : decode cX5_put 33 = .ok (.iastore, 1) := by decide +kernel
theorem dX5_put_34 : decode cX5_put 34 = .ok (.goto 10, 3) := by decide +kernel
theorem dX5_put_37 : decode cX5_put 37 = .ok (.aload_n 0, 1) := by decide +kernel
theorem dX5_put_38 : decode cX5_put 38 = .ok (.getfield 9, 3) := by decide +kernel
theorem dX5_put_41 : decode cX5_put 41 = .ok (.iload_n 1, 1) := by decide +kernel
theorem dX5_put_42 : decode cX5_put 42 = .ok (.iload_n 2, 1) := by decide +kernel
theorem dX5_put_43 : decode cX5_put 43 = .ok (.iastore, 1) := by decide +kernel
theorem dX5_put_44 : decode cX5_put 44 = .ok (.return_, 1) := by decide +kernel
theorem dX6_init_0 : decode cX6_init 0 = .ok (.aload_n 0, 1) := by decide +kernel
theorem dX6_init_1 : decode cX6_init 1 = .ok (.invokespecial 1, 3) := by decide +kernel
theorem dX6_init_4 : decode cX6_init 4 = .ok (.aload_n 0, 1) := by decide +kernel
theorem dX6_init_5 : decode cX6_init 5 = .ok (.bipush 80, 2) := by decide +kernel
theorem dX6_init_7 : decode cX6_init 7 = .ok (.newarray .char, 2) := by decide +kernel
theorem dX6_init_9 : decode cX6_init 9 = .ok (.putfield 9, 3) := by decide +kernel
theorem dX6_init_12 : decode cX6_init 12 = .ok (.aload_n 0, 1) := by decide +kernel
theorem dX6_init_13 : decode cX6_init 13 = .ok (.iconst 0, 1) := by decide +kernel
theorem dX6_init_14 : decode cX6_init 14 = .ok (.putfield 13, 3) := by decide +kernel
theorem dX6_init_17 : decode cX6_init 17 = .ok (.return_, 1) := by decide +kernel
theorem dX7_init_0 : decode cX7_init 0 = .ok (.aload_n 0, 1) := by decide +kernel
theorem dX7_init_1 : decode cX7_init 1 = .ok (.invokespecial 3, 3) := by decide +kernel
theorem dX7_init_4 : decode cX7_init 4 = .ok (.aload_n 0, 1) := by decide +kernel
theorem dX7_init_5 : decode cX7_init 5 = .ok (.bipush 100, 2) := by decide +kernel
theorem dX7_init_7 : decode cX7_init 7 = .ok (.newarray .int, 2) := by decide +kernel
theorem dX7_init_9 : decode cX7_init 9 = .ok (.putfield 11, 3) := by decide +kernel
theorem dX7_init_12 : decode cX7_init 12 = .ok (.aload_n 0, 1) := by decide +kernel
theorem dX7_init_13 : decode cX7_init 13 = .ok (.bipush 100, 2) := by decide +kernel
theorem dX7_init_15 : decode cX7_init 15 = .ok (.newarray .int, 2) := by decide +kernel
theorem dX7_init_17 : decode cX7_init 17 = .ok (.putfield 15, 3) := by decide +kernel
theorem dX7_init_20 : decode cX7_init 20 = .ok (.aload_n 0, 1) := by decide +kernel
theorem dX7_init_21 : decode cX7_init 21 = .ok (.bipush 100, 2) := by decide +kernel
theorem dX7_init_23 : decode cX7_init 23 = .ok (.newarray .int, 2) := by decide +kernel
theorem dX7_init_25 : decode cX7_init 25 = .ok (.putfield 18, 3) := by decide +kernel
theorem dX7_init_28 : decode cX7_init 28 = .ok (.aload_n 0, 1) := by decide +kernel
theorem dX7_init_29 : decode cX7_init 29 = .ok (.bipush 100, 2) := by decide +kernel
theorem dX7_init_31 : decode cX7_init 31 = .ok (.newarray .int, 2) := by decide +kernel
theorem dX7_init_33 : decode cX7_init 33 = .ok (.putfield 21, 3) := by decide +kernel
theorem dX7_init_36 : decode cX7_init 36 = .ok (.aload_n 0, 1) := by decide +kernel
theorem dX7_init_37 : decode cX7_init 37 = .ok (.bipush 100, 2) := by decide +kernel
theorem dX7_init_39 : decode cX7_init 39 = .ok (.newarray .int, 2) := by decide +kernel
theorem dX7_init_41 : decode cX7_init 41 = .ok (.putfield 24, 3) := by decide +kernel
theorem dX7_init_44 : decode cX7_init 44 = .ok (.aload_n 0, 1) := by decide +kernel
theorem dX7_init_45 : decode cX7_init 45 = .ok (.bipush 100, 2) := by decide +kernel
theorem dX7_init_47 : decode cX7_init 47 = .ok (.newarray .int, 2) := by decide +kernel
theorem dX7_init_49 : decode cX7_init 49 = .ok (.putfield 27, 3) := by decide +kernel
theorem dX7_init_52 : decode cX7_init 52 = .ok (.aload_n 0, 1) := by decide +kernel
theorem dX7_init_53 : decode cX7_init 53 = .ok (.bipush 100, 2) := by decide +kernel
theorem dX7_init_55 : decode cX7_init 55 = .ok (.newarray .int, 2) := by decide +kernel
theorem dX7_init_57 : decode cX7_init 57 = .ok (.putfield 30, 3) := by decide +kernel
theorem dX7_init_60 : decode cX7_init 60 = .ok (.aload_n 0, 1) := by decide +kernel
theorem dX7_init_61 : decode cX7_init 61 = .ok (.iconst 4, 1) := by decide +kernel
theorem dX7_init_62 : decode cX7_init 62 = .ok (.newarray .int, 2) := by decide +kernel
theorem dX7_init_64 : decode cX7_init 64 = .ok (.putfield 33, 3) := by decide +kernel
theorem dX7_init_67 : decode cX7_init 67 = .ok (.aload_n 0, 1) := by decide +kernel
theorem dX7_init_68 : decode cX7_init 68 = .ok (.bipush 16, 2) := by decide +kernel
theorem dX7_init_70 : decode cX7_init 70 = .ok (.newarray .boolean, 2) := by decide +kernel
theorem dX7_init_72 : decode cX7_init 72 = .ok (.putfield 36, 3) := by decide +kernel
theorem dX7_init_75 : decode cX7_init 75 = .ok (.aload_n 0, 1) := by decide +kernel
theorem dX7_init_76 : decode cX7_init 76 = .ok (.iconst 0, 1) := by decide +kernel
theorem dX7_init_77 : decode cX7_init 77 = .ok (.putfield 40, 3) := by decide +kernel
theorem dX7_init_80 : decode cX7_init 80 = .ok (.return_, 1) := by decide +kernel
theorem dX7_hasPoint_0 : decode cX7_hasPoint 0 = .ok (.iload_n 1, 1) := by decide +kernel
theorem dX7_hasPoint_1 : decode cX7_hasPoint 1 = .ok (.ifCond .lt 15, 3) := by decide +kernel
theorem dX7_hasPoint_4 : decode cX7_hasPoint 4 = .ok (.iload_n 1, 1) := by decide +kernel
theorem dX7_hasPoint_5 : decode cX7_hasPoint 5 = .ok (.aload_n 0, 1) := by decide +kernel
theorem dX7_hasPoint_6 : decode cX7_hasPoint 6 = .ok (.getfield 40, 3) := by decide +kernel
theorem dX7_hasPoint_9 : decode cX7_hasPoint 9 = .ok (.if_icmp .ge 7, 3) := by decide +kernel
theorem dX7_hasPoint_12 : decode cX7_hasPoint 12 = .ok (.iconst 1, 1) := by decide +kernel
theorem dX7_hasPoint_13 : decode cX7_hasPoint 13 = .ok (.goto 4, 3) := by decide +kernel
theorem dX7_hasPoint_16 : decode cX7_hasPoint 16 = .ok (.iconst 0, 1) := by decide +kernel
theorem dX7_hasPoint_17 : decode cX7_hasPoint 17 = .ok (.ireturn, 1) := by decide +kernel
theorem dX7_height_0 : decode cX7_height 0 = .ok (.aload_n 0, 1) := by decide +kernel
theorem dX7_height_1 : decode cX7_height 1 = .ok (.getfield 18, 3) := by decide +kernel
theorem dX7_height_4 : decode cX7_height 4 = .ok (.iload_n 1, 1) := by decide +kernel
theorem dX7_height_5 : decode cX7_height 5 = .ok (.iaload, 1) := by decide +kernel
theorem dX7_height_6 : decode cX7_height 6 = .ok (.aload_n 0, 1) := by decide +kernel
theorem dX7_height_7 : decode cX7_height 7 = .ok (.getfield 33, 3) := by decide +kernel
theorem dX7_height_10 : decode cX7_height 10 = .ok (.aload_n 0, 1) := by decide +kernel
theorem dX7_height_11 : decode cX7_height 11 = .ok (.getfield 21, 3) := by decide +kernel
theorem dX7_height_14 : decode cX7_height 14 = .ok (.iload_n 1, 1) := by decide +kernel
theorem dX7_height_15 : decode cX7_height 15 = .ok (.iaload, 1) := by decide +kernel
theorem dX7_height_16 : decode cX7_height 16 = .ok (.iaload, 1) := by decide +kernel
theorem dX7_height_17 : decode cX7_height 17 = .ok (.iadd, 1) := by decide +kernel
theorem dX7_height_18 : decode cX7_height 18 = .ok (.ireturn, 1) := by decide +kernel
theorem dX7_square_0 : decode cX7_square 0 = .ok (.aload_n 0, 1) := by decide +kernel
theorem dX7_square_1 : decode cX7_square 1 = .ok (.getfield 11, 3) := by decide +kernel
theorem dX7_square_4 : decode cX7_square 4 = .ok (.iload_n 1, 1) := by decide +kernel
theorem dX7_square_5 : decode cX7_square 5 = .ok (.iaload, 1) := by decide +kernel
theorem dX7_square_6 : decode cX7_square 6 = .ok (.iconst 4, 1) := by decide +kernel
theorem dX7_square_7 : decode cX7_square 7 = .ok (.idiv, 1) := by decide +kernel
theorem dX7_square_8 : decode cX7_square 8 = .ok (.bipush 16, 2) := by decide +kernel
theorem dX7_square_10 : decode cX7_square 10 = .ok (.aload_n 0, 1) := by decide +kernel
theorem dX7_square_11 : decode cX7_square 11 = .ok (.getfield 15, 3) := by decide +kernel
theorem dX7_square_14 : decode cX7_square 14 = .ok (.iload_n 1, 1) := by decide +kernel
theorem dX7_square_15 : decode cX7_square 15 = .ok (.iaload, 1) := by decide +kernel
theorem dX7_square_16 : decode cX7_square 16 = .ok (.iconst 4, 1) := by decide +kernel
theorem dX7_square_17 : decode cX7_square 17 = .ok (.idiv, 1) := by decide +kernel
theorem dX7_square_18 : decode cX7_square 18 = .ok (.imul, 1) := by decide +kernel
theorem dX7_square_19 : decode cX7_square 19 = .ok (.iadd, 1) := by decide +kernel
theorem dX7_square_20 : decode cX7_square 20 = .ok (.ireturn, 1) := by decide +kernel
theorem dX7_canTake_0 : decode cX7_canTake 0 = .ok (.iconst 0, 1) := by decide +kernel
theorem dX7_canTake_1 : decode cX7_canTake 1 = .ok (.istore 4, 2) := by decide +kernel
theorem dX7_canTake_3 : decode cX7_canTake 3 = .ok (.iload 4, 2) := by decide +kernel
theorem dX7_canTake_5 : decode cX7_canTake 5 = .ok (.iload_n 3, 1) := by decide +kernel
theorem dX7_canTake_6 : decode cX7_canTake 6 = .ok (.if_icmp .ge 48, 3) := by decide +kernel
theorem dX7_canTake_9 : decode cX7_canTake 9 = .ok (.iload_n 2, 1) := by decide +kernel
theorem dX7_canTake_10 : decode cX7_canTake 10 = .ok (.iconst 4, 1) := by decide +kernel
theorem dX7_canTake_11 : decode cX7_canTake 11 = .ok (.iload 4, 2) := by decide +kernel
theorem dX7_canTake_13 : decode cX7_canTake 13 = .ok (.imul, 1) := by decide +kernel
theorem dX7_canTake_14 : decode cX7_canTake 14 = .ok (.iadd, 1) := by decide +kernel
theorem dX7_canTake_15 : decode cX7_canTake 15 = .ok (.istore 5, 2) := by decide +kernel
theorem dX7_canTake_17 : decode cX7_canTake 17 = .ok (.aload_n 0, 1) := by decide +kernel
theorem dX7_canTake_18 : decode cX7_canTake 18 = .ok (.aload_n 1, 1) := by decide +kernel
theorem dX7_canTake_19 : decode cX7_canTake 19 = .ok (.iload 5, 2) := by decide +kernel
theorem dX7_canTake_21 : decode cX7_canTake 21 = .ok (.iaload, 1) := by decide +kernel
theorem dX7_canTake_22 : decode cX7_canTake 22 = .ok (.aload_n 1, 1) := by decide +kernel
theorem dX7_canTake_23 : decode cX7_canTake 23 = .ok (.iload 5, 2) := by decide +kernel
theorem dX7_canTake_25 : decode cX7_canTake 25 = .ok (.iconst 1, 1) := by decide +kernel
theorem dX7_canTake_26 : decode cX7_canTake 26 = .ok (.iadd, 1) := by decide +kernel
theorem dX7_canTake_27 : decode cX7_canTake 27 = .ok (.iaload, 1) := by decide +kernel
theorem dX7_canTake_28 : decode cX7_canTake 28 = .ok (.aload_n 1, 1) := by decide +kernel
theorem dX7_canTake_29 : decode cX7_canTake 29 = .ok (.iload 5, 2) := by decide +kernel
theorem dX7_canTake_31 : decode cX7_canTake 31 = .ok (.iconst 2, 1) := by decide +kernel
theorem dX7_canTake_32 : decode cX7_canTake 32 = .ok (.iadd, 1) := by decide +kernel
theorem dX7_canTake_33 : decode cX7_canTake 33 = .ok (.iaload, 1) := by decide +kernel
theorem dX7_canTake_34 : decode cX7_canTake 34 = .ok (.aload_n 1, 1) := by decide +kernel
theorem dX7_canTake_35 : decode cX7_canTake 35 = .ok (.iload 5, 2) := by decide +kernel
theorem dX7_canTake_37 : decode cX7_canTake 37 = .ok (.iconst 3, 1) := by decide +kernel
theorem dX7_canTake_38 : decode cX7_canTake 38 = .ok (.iadd, 1) := by decide +kernel
theorem dX7_canTake_39 : decode cX7_canTake 39 = .ok (.iaload, 1) := by decide +kernel
theorem dX7_canTake_40 : decode cX7_canTake 40 = .ok (.invokevirtual 44, 3) := by decide +kernel
theorem dX7_canTake_43 : decode cX7_canTake 43 = .ok (.ifCond .ne 5, 3) := by decide +kernel
theorem dX7_canTake_46 : decode cX7_canTake 46 = .ok (.iconst 0, 1) := by decide +kernel
theorem dX7_canTake_47 : decode cX7_canTake 47 = .ok (.ireturn, 1) := by decide +kernel
theorem dX7_canTake_48 : decode cX7_canTake 48 = .ok (.iinc 4 1, 3) := by decide +kernel
theorem dX7_canTake_51 : decode cX7_canTake 51 = .ok (.goto (-48), 3) := by decide +kernel
theorem dX7_canTake_54 : decode cX7_canTake 54 = .ok (.iconst 1, 1) := by decide +kernel
theorem dX7_canTake_55 : decode cX7_canTake 55 = .ok (.ireturn, 1) := by decide +kernel
theorem dX7_isPoint_0 : decode cX7_isPoint 0 = .ok (.iload_n 1, 1) := by decide +kernel
theorem dX7_isPoint_1 : decode cX7_isPoint 1 = .ok (.ifCond .lt 61, 3) := by decide +kernel
theorem dX7_isPoint_4 : decode cX7_isPoint 4 = .ok (.iload_n 1, 1) := by decide +kernel
theorem dX7_isPoint_5 : decode cX7_isPoint 5 = .ok (.bipush 63, 2) := by decide +kernel
theorem dX7_isPoint_7 : decode cX7_isPoint 7 = .ok (.if_icmp .gt 55, 3) := by decide +kernel
theorem dX7_isPoint_10 : decode cX7_isPoint 10 = .ok (.iload_n 2, 1) := by decide +kernel
theorem dX7_isPoint_11 : decode cX7_isPoint 11 = .ok (.ifCond .lt 51, 3) := by decide +kernel
theorem dX7_isPoint_14 : decode cX7_isPoint 14 = .ok (.iload_n 2, 1) := by decide +kernel
theorem dX7_isPoint_15 : decode cX7_isPoint 15 = .ok (.bipush 63, 2) := by decide +kernel
theorem dX7_isPoint_17 : decode cX7_isPoint 17 = .ok (.if_icmp .gt 45, 3) := by decide +kernel
theorem dX7_isPoint_20 : decode cX7_isPoint 20 = .ok (.iload_n 3, 1) := by decide +kernel
theorem dX7_isPoint_21 : decode cX7_isPoint 21 = .ok (.sipush (-3000), 3) := by decide +kernel
theorem dX7_isPoint_24 : decode cX7_isPoint 24 = .ok (.if_icmp .lt 38, 3) := by decide +kernel
theorem dX7_isPoint_27 : decode cX7_isPoint 27 = .ok (.iload_n 3, 1) := by decide +kernel
theorem dX7_isPoint_28 : decode cX7_isPoint 28 = .ok (.sipush 3000, 3) := by decide +kernel
theorem dX7_isPoint_31 : decode cX7_isPoint 31 = .ok (.if_icmp .gt 31, 3) := by decide +kernel
theorem dX7_isPoint_34 : decode cX7_isPoint 34 = .ok (.iload 4, 2) := by decide +kernel
theorem dX7_isPoint_36 : decode cX7_isPoint 36 = .ok (.ifCond .lt 26, 3) := by decide +kernel
theorem dX7_isPoint_39 : decode cX7_isPoint 39 = .ok (.iload 4, 2) := by decide +kernel
theorem dX7_isPoint_41 : decode cX7_isPoint 41 = .ok (.iconst 4, 1) := by decide +kernel
theorem dX7_isPoint_42 : decode cX7_isPoint 42 = .ok (.if_icmp .ge 20, 3) := by decide +kernel
theorem dX7_isPoint_45 : decode cX7_isPoint 45 = .ok (.aload_n 0, 1) := by decide +kernel
theorem dX7_isPoint_46 : decode cX7_isPoint 46 = .ok (.getfield 36, 3) := by decide +kernel
theorem dX7_isPoint_49 : decode cX7_isPoint 49 = .ok (.iload_n 1, 1) := by decide +kernel
theorem dX7_isPoint_50 : decode cX7_isPoint 50 = .ok (.iload_n 2, 1) := by decide +kernel
theorem dX7_isPoint_51 : decode cX7_isPoint 51 = .ok (.invokestatic 48, 3) := by decide +kernel
theorem dX7_isPoint_54 : decode cX7_isPoint 54 = .ok (.baload, 1) := by decide +kernel
theorem dX7_isPoint_55 : decode cX7_isPoint 55 = .ok (.ifCond .ne 7, 3) := by decide +kernel
theorem dX7_isPoint_58 : decode cX7_isPoint 58 = .ok (.iconst 1, 1) := by decide +kernel
theorem dX7_isPoint_59 : decode cX7_isPoint 59 = .ok (.goto 4, 3) := by decide +kernel
theorem dX7_isPoint_62 : decode cX7_isPoint 62 = .ok (.iconst 0, 1) := by decide +kernel
theorem dX7_isPoint_63 : decode cX7_isPoint 63 = .ok (.ireturn, 1) := by decide +kernel
theorem dX7_take_0 : decode cX7_take 0 = .ok (.iconst 0, 1) := by decide +kernel
theorem dX7_take_1 : decode cX7_take 1 = .ok (.istore 4, 2) := by decide +kernel
theorem dX7_take_3 : decode cX7_take 3 = .ok (.iload 4, 2) := by decide +kernel
theorem dX7_take_5 : decode cX7_take 5 = .ok (.iload_n 3, 1) := by decide +kernel
theorem dX7_take_6 : decode cX7_take 6 = .ok (.if_icmp .ge 105, 3) := by decide +kernel
theorem dX7_take_9 : decode cX7_take 9 = .ok (.iload_n 2, 1) := by decide +kernel
theorem dX7_take_10 : decode cX7_take 10 = .ok (.iconst 4, 1) := by decide +kernel
theorem dX7_take_11 : decode cX7_take 11 = .ok (.iload 4, 2) := by decide +kernel
theorem dX7_take_13 : decode cX7_take 13 = .ok (.imul, 1) := by decide +kernel
theorem dX7_take_14 : decode cX7_take 14 = .ok (.iadd, 1) := by decide +kernel
theorem dX7_take_15 : decode cX7_take 15 = .ok (.istore 5, 2) := by decide +kernel
theorem dX7_take_17 : decode cX7_take 17 = .ok (.aload_n 0, 1) := by decide +kernel
theorem dX7_take_18 : decode cX7_take 18 = .ok (.getfield 11, 3) := by decide +kernel
theorem dX7_take_21 : decode cX7_take 21 = .ok (.aload_n 0, 1) := by decide +kernel
theorem dX7_take_22 : decode cX7_take 22 = .ok (.getfield 40, 3) := by decide +kernel
theorem dX7_take_25 : decode cX7_take 25 = .ok (.aload_n 1, 1) := by decide +kernel
theorem dX7_take_26 : decode cX7_take 26 = .ok (.iload 5, 2) := by decide +kernel
theorem dX7_take_28 : decode cX7_take 28 = .ok (.iaload, 1) := by decide +kernel
theorem dX7_take_29 : decode cX7_take 29 = .ok (.iastore, 1) := by decide +kernel
theorem dX7_take_30 : decode cX7_take 30 = .ok (.aload_n 0, 1) := by decide +kernel
theorem dX7_take_31 : decode cX7_take 31 = .ok (.getfield 15, 3) := by decide +kernel
theorem dX7_take_34 : decode cX7_take 34 = .ok (.aload_n 0, 1) := by decide +kernel
theorem dX7_take_35 : decode cX7_take 35 = .ok (.getfield 40, 3) := by decide +kernel
theorem dX7_take_38 : decode cX7_take 38 = .ok (.aload_n 1, 1) := by decide +kernel
theorem dX7_take_39 : decode cX7_take 39 = .ok (.iload 5, 2) := by decide +kernel
theorem dX7_take_41 : decode cX7_take 41 = .ok (.iconst 1, 1) := by decide +kernel
theorem dX7_take_42 : decode cX7_take 42 = .ok (.iadd, 1) := by decide +kernel
theorem dX7_take_43 : decode cX7_take 43 = .ok (.iaload, 1) := by decide +kernel
theorem dX7_take_44 : decode cX7_take 44 = .ok (.iastore, 1) := by decide +kernel
theorem dX7_take_45 : decode cX7_take 45 = .ok (.aload_n 0, 1) := by decide +kernel
theorem dX7_take_46 : decode cX7_take 46 = .ok (.getfield 18, 3) := by decide +kernel
theorem dX7_take_49 : decode cX7_take 49 = .ok (.aload_n 0, 1) := by decide +kernel
theorem dX7_take_50 : decode cX7_take 50 = .ok (.getfield 40, 3) := by decide +kernel
theorem dX7_take_53 : decode cX7_take 53 = .ok (.aload_n 1, 1) := by decide +kernel
theorem dX7_take_54 : decode cX7_take 54 = .ok (.iload 5, 2) := by decide +kernel
theorem dX7_take_56 : decode cX7_take 56 = .ok (.iconst 2, 1) := by decide +kernel
theorem dX7_take_57 : decode cX7_take 57 = .ok (.iadd, 1) := by decide +kernel
theorem dX7_take_58 : decode cX7_take 58 = .ok (.iaload, 1) := by decide +kernel
theorem dX7_take_59 : decode cX7_take 59 = .ok (.iastore, 1) := by decide +kernel
theorem dX7_take_60 : decode cX7_take 60 = .ok (.aload_n 0, 1) := by decide +kernel
theorem dX7_take_61 : decode cX7_take 61 = .ok (.getfield 21, 3) := by decide +kernel
theorem dX7_take_64 : decode cX7_take 64 = .ok (.aload_n 0, 1) := by decide +kernel
theorem dX7_take_65 : decode cX7_take 65 = .ok (.getfield 40, 3) := by decide +kernel
theorem dX7_take_68 : decode cX7_take 68 = .ok (.aload_n 1, 1) := by decide +kernel
theorem dX7_take_69 : decode cX7_take 69 = .ok (.iload 5, 2) := by decide +kernel
theorem dX7_take_71 : decode cX7_take 71 = .ok (.iconst 3, 1) := by decide +kernel
theorem dX7_take_72 : decode cX7_take 72 = .ok (.iadd, 1) := by decide +kernel
theorem dX7_take_73 : decode cX7_take 73 = .ok (.iaload, 1) := by decide +kernel
theorem dX7_take_74 : decode cX7_take 74 = .ok (.iastore, 1) := by decide +kernel
theorem dX7_take_75 : decode cX7_take 75 = .ok (.aload_n 0, 1) := by decide +kernel
theorem dX7_take_76 : decode cX7_take 76 = .ok (.getfield 27, 3) := by decide +kernel
theorem dX7_take_79 : decode cX7_take 79 = .ok (.aload_n 0, 1) := by decide +kernel
theorem dX7_take_80 : decode cX7_take 80 = .ok (.getfield 40, 3) := by decide +kernel
theorem dX7_take_83 : decode cX7_take 83 = .ok (.iconst 0, 1) := by decide +kernel
theorem dX7_take_84 : decode cX7_take 84 = .ok (.iastore, 1) := by decide +kernel
theorem dX7_take_85 : decode cX7_take 85 = .ok (.aload_n 0, 1) := by decide +kernel
theorem dX7_take_86 : decode cX7_take 86 = .ok (.aload_n 0, 1) := by decide +kernel
theorem dX7_take_87 : decode cX7_take 87 = .ok (.getfield 40, 3) := by decide +kernel
theorem dX7_take_90 : decode cX7_take 90 = .ok (.iconst 0, 1) := by decide +kernel
theorem dX7_take_91 : decode cX7_take 91 = .ok (.iconst (-1), 1) := by decide +kernel
theorem dX7_take_92 : decode cX7_take 92 = .ok (.invokevirtual 52, 3) := by decide +kernel
theorem dX7_take_95 : decode cX7_take 95 = .ok (.aload_n 0, 1) := by decide +kernel
theorem dX7_take_96 : decode cX7_take 96 = .ok (.dup, 1) := by decide +kernel
theorem dX7_take_97 : decode cX7_take 97 = .ok (.getfield 40, 3) := by decide +kernel
theorem dX7_take_100 : decode cX7_take 100 = .ok (.iconst 1, 1) := by decide +kernel
theorem dX7_take_101 : decode cX7_take 101 = .ok (.iadd, 1) := by decide +kernel
theorem dX7_take_102 : decode cX7_take 102 = .ok (.putfield 40, 3) := by decide +kernel
theorem dX7_take_105 : decode cX7_take 105 = .ok (.iinc 4 1, 3) := by decide +kernel
theorem dX7_take_108 : decode cX7_take 108 = .ok (.goto (-105), 3) := by decide +kernel
theorem dX7_take_111 : decode cX7_take 111 = .ok (.return_, 1) := by decide +kernel
theorem dX7_settle_0 : decode cX7_settle 0 = .ok (.aload_n 0, 1) := by decide +kernel
theorem dX7_settle_1 : decode cX7_settle 1 = .ok (.getfield 24, 3) := by decide +kernel
theorem dX7_settle_4 : decode cX7_settle 4 = .ok (.iload_n 1, 1) := by decide +kernel
theorem dX7_settle_5 : decode cX7_settle 5 = .ok (.iload_n 2, 1) := by decide +kernel
theorem dX7_settle_6 : decode cX7_settle 6 = .ok (.iastore, 1) := by decide +kernel
theorem dX7_settle_7 : decode cX7_settle 7 = .ok (.aload_n 0, 1) := by decide +kernel
theorem dX7_settle_8 : decode cX7_settle 8 = .ok (.getfield 30, 3) := by decide +kernel
theorem dX7_settle_11 : decode cX7_settle 11 = .ok (.iload_n 1, 1) := by decide +kernel
theorem dX7_settle_12 : decode cX7_settle 12 = .ok (.iload_n 3, 1) := by decide +kernel
theorem dX7_settle_13 : decode cX7_settle 13 = .ok (.iastore, 1) := by decide +kernel
theorem dX7_settle_14 : decode cX7_settle 14 = .ok (.return_, 1) := by decide +kernel
theorem dX7_countKind_0 : decode cX7_countKind 0 = .ok (.iconst 0, 1) := by decide +kernel
theorem dX7_countKind_1 : decode cX7_countKind 1 = .ok (.istore_n 2, 1) := by decide +kernel
theorem dX7_countKind_2 : decode cX7_countKind 2 = .ok (.iconst 0, 1) := by decide +kernel
theorem dX7_countKind_3 : decode cX7_countKind 3 = .ok (.istore_n 3, 1) := by decide +kernel
theorem dX7_countKind_4 : decode cX7_countKind 4 = .ok (.iload_n 3, 1) := by decide +kernel
theorem dX7_countKind_5 : decode cX7_countKind 5 = .ok (.aload_n 0, 1) := by decide +kernel
theorem dX7_countKind_6 : decode cX7_countKind 6 = .ok (.getfield 40, 3) := by decide +kernel
theorem dX7_countKind_9 : decode cX7_countKind 9 = .ok (.if_icmp .ge 22, 3) := by decide +kernel
theorem dX7_countKind_12 : decode cX7_countKind 12 = .ok (.aload_n 0, 1) := by decide +kernel
theorem dX7_countKind_13 : decode cX7_countKind 13 = .ok (.getfield 24, 3) := by decide +kernel
theorem dX7_countKind_16 : decode cX7_countKind 16 = .ok (.iload_n 3, 1) := by decide +kernel
theorem dX7_countKind_17 : decode cX7_countKind 17 = .ok (.iaload, 1) := by decide +kernel
theorem dX7_countKind_18 : decode cX7_countKind 18 = .ok (.iload_n 1, 1) := by decide +kernel
theorem dX7_countKind_19 : decode cX7_countKind 19 = .ok (.if_icmp .ne 6, 3) := by decide +kernel
theorem dX7_countKind_22 : decode cX7_countKind 22 = .ok (.iinc 2 1, 3) := by decide +kernel
theorem dX7_countKind_25 : decode cX7_countKind 25 = .ok (.iinc 3 1, 3) := by decide +kernel
theorem dX7_countKind_28 : decode cX7_countKind 28 = .ok (.goto (-24), 3) := by decide +kernel
theorem dX7_countKind_31 : decode cX7_countKind 31 = .ok (.iload_n 2, 1) := by decide +kernel
theorem dX7_countKind_32 : decode cX7_countKind 32 = .ok (.ireturn, 1) := by decide +kernel
theorem dX7_countLost_0 : decode cX7_countLost 0 = .ok (.iconst 0, 1) := by decide +kernel
theorem dX7_countLost_1 : decode cX7_countLost 1 = .ok (.istore_n 1, 1) := by decide +kernel
theorem dX7_countLost_2 : decode cX7_countLost 2 = .ok (.aload_n 0, 1) := by decide +kernel
theorem dX7_countLost_3 : decode cX7_countLost 3 = .ok (.getfield 36, 3) := by decide +kernel
theorem dX7_countLost_6 : decode cX7_countLost 6 = .ok (.astore_n 2, 1) := by decide +kernel
theorem dX7_countLost_7 : decode cX7_countLost 7 = .ok (.aload_n 2, 1) := by decide +kernel
theorem dX7_countLost_8 : decode cX7_countLost 8 = .ok (.arraylength, 1) := by decide +kernel
theorem dX7_countLost_9 : decode cX7_countLost 9 = .ok (.istore_n 3, 1) := by decide +kernel
theorem dX7_countLost_10 : decode cX7_countLost 10 = .ok (.iconst 0, 1) := by decide +kernel
theorem dX7_countLost_11 : decode cX7_countLost 11 = .ok (.istore 4, 2) := by decide +kernel
theorem dX7_countLost_13 : decode cX7_countLost 13 = .ok (.iload 4, 2) := by decide +kernel
theorem dX7_countLost_15 : decode cX7_countLost 15 = .ok (.iload_n 3, 1) := by decide +kernel
theorem dX7_countLost_16 : decode cX7_countLost 16 = .ok (.if_icmp .ge 23, 3) := by decide +kernel
theorem dX7_countLost_19 : decode cX7_countLost 19 = .ok (.aload_n 2, 1) := by decide +kernel
theorem dX7_countLost_20 : decode cX7_countLost 20 = .ok (.iload 4, 2) := by decide +kernel
theorem dX7_countLost_22 : decode cX7_countLost 22 = .ok (.baload, 1) := by decide +kernel
theorem dX7_countLost_23 : decode cX7_countLost 23 = .ok (.istore 5, 2) := by decide +kernel
theorem dX7_countLost_25 : decode cX7_countLost 25 = .ok (.iload 5, 2) := by decide +kernel
theorem dX7_countLost_27 : decode cX7_countLost 27 = .ok (.ifCond .eq 6, 3) := by decide +kernel
theorem dX7_countLost_30 : decode cX7_countLost 30 = .ok (.iinc 1 1, 3) := by decide +kernel
theorem dX7_countLost_33 : decode cX7_countLost 33 = .ok (.iinc 4 1, 3) := by decide +kernel
theorem dX7_countLost_36 : decode cX7_countLost 36 = .ok (.goto (-23), 3) := by decide +kernel
theorem dX7_countLost_39 : decode cX7_countLost 39 = .ok (.iload_n 1, 1) := by decide +kernel
theorem dX7_countLost_40 : decode cX7_countLost 40 = .ok (.ireturn, 1) := by decide +kernel
theorem dX7_growGround_0 : decode cX7_growGround 0 = .ok (.aload_n 0, 1) := by decide +kernel
theorem dX7_growGround_1 : decode cX7_growGround 1 = .ok (.invokevirtual 71, 3) := by decide +kernel
theorem dX7_growGround_4 : decode cX7_growGround 4 = .ok (.iconst 1, 1) := by decide +kernel
theorem dX7_growGround_5 : decode cX7_growGround 5 = .ok (.istore 4, 2) := by decide +kernel
theorem dX7_growGround_7 : decode cX7_growGround 7 = .ok (.iconst 1, 1) := by decide +kernel
theorem dX7_growGround_8 : decode cX7_growGround 8 = .ok (.istore 5, 2) := by decide +kernel
theorem dX7_growGround_10 : decode cX7_growGround 10 = .ok (.iload 4, 2) := by decide +kernel
theorem dX7_growGround_12 : decode cX7_growGround 12 = .ok (.ifCond .eq 29, 3) := by decide +kernel
theorem dX7_growGround_15 : decode cX7_growGround 15 = .ok (.iload 5, 2) := by decide +kernel
theorem dX7_growGround_17 : decode cX7_growGround 17 = .ok (.aload_n 0, 1) := by decide +kernel
theorem dX7_growGround_18 : decode cX7_growGround 18 = .ok (.getfield 40, 3) := by decide +kernel
theorem dX7_growGround_21 : decode cX7_growGround 21 = .ok (.if_icmp .gt 20, 3) := by decide +kernel
theorem dX7_growGround_24 : decode cX7_growGround 24 = .ok (.aload_n 0, 1) := by decide +kernel
theorem dX7_growGround_25 : decode cX7_growGround 25 = .ok (.iload 5, 2) := by decide +kernel
theorem dX7_growGround_27 : decode cX7_growGround 27 = .ok (.iload_n 1, 1) := by decide +kernel
theorem dX7_growGround_28 : decode cX7_growGround 28 = .ok (.iload_n 2, 1) := by decide +kernel
theorem dX7_growGround_29 : decode cX7_growGround 29 = .ok (.iload_n 3, 1) := by decide +kernel
theorem dX7_growGround_30 : decode cX7_growGround 30 = .ok (.invokevirtual 74, 3) := by decide +kernel
theorem dX7_growGround_33 : decode cX7_growGround 33 = .ok (.istore 4, 2) := by decide +kernel
theorem dX7_growGround_35 : decode cX7_growGround 35 = .ok (.iinc 5 1, 3) := by decide +kernel
theorem dX7_growGround_38 : decode cX7_growGround 38 = .ok (.goto (-28), 3) := by decide +kernel
theorem dX7_growGround_41 : decode cX7_growGround 41 = .ok (.aload_n 0, 1) := by decide +kernel
theorem dX7_growGround_42 : decode cX7_growGround 42 = .ok (.iconst 1, 1) := by decide +kernel
theorem dX7_growGround_43 : decode cX7_growGround 43 = .ok (.invokevirtual 77, 3) := by decide +kernel
theorem dX7_growGround_46 : decode cX7_growGround 46 = .ok (.ireturn, 1) := by decide +kernel
theorem dX7_startFromSeeds_0 : decode cX7_startFromSeeds 0 = .ok (.iconst 0, 1) := by decide +kernel
theorem dX7_startFromSeeds_1 : decode cX7_startFromSeeds 1 = .ok (.istore_n 1, 1) := by decide +kernel
theorem dX7_startFromSeeds_2 : decode cX7_startFromSeeds 2 = .ok (.iload_n 1, 1) := by decide +kernel
theorem dX7_startFromSeeds_3 : decode cX7_startFromSeeds 3 = .ok (.aload_n 0, 1) := by decide +kernel
theorem dX7_startFromSeeds_4 : decode cX7_startFromSeeds 4 = .ok (.getfield 40, 3) := by decide +kernel
theorem dX7_startFromSeeds_7 : decode cX7_startFromSeeds 7 = .ok (.if_icmp .ge 26, 3) := by decide +kernel
theorem dX7_startFromSeeds_10 : decode cX7_startFromSeeds 10 = .ok (.aload_n 0, 1) := by decide +kernel
theorem dX7_startFromSeeds_11 : decode cX7_startFromSeeds 11 = .ok (.getfield 27, 3) := by decide +kernel
theorem dX7_startFromSeeds_14 : decode cX7_startFromSeeds 14 = .ok (.iload_n 1, 1) := by decide +kernel
theorem dX7_startFromSeeds_15 : decode cX7_startFromSeeds 15 = .ok (.iaload, 1) := by decide +kernel
theorem dX7_startFromSeeds_16 : decode cX7_startFromSeeds 16 = .ok (.iconst 1, 1) := by decide +kernel
theorem dX7_startFromSeeds_17 : decode cX7_startFromSeeds 17 = .ok (.if_icmp .eq 10, 3) := by decide +kernel
theorem dX7_startFromSeeds_20 : decode cX7_startFromSeeds 20 = .ok (.aload_n 0, 1) := by decide +kernel
theorem dX7_startFromSeeds_21 : decode cX7_startFromSeeds 21 = .ok (.iload_n 1, 1) := by decide +kernel
theorem dX7_startFromSeeds_22 : decode cX7_startFromSeeds 22 = .ok (.iconst 2, 1) := by decide +kernel
theorem dX7_startFromSeeds_23 : decode cX7_startFromSeeds 23 = .ok (.iconst (-1), 1) := by decide +kernel
theorem dX7_startFromSeeds_24 : decode cX7_startFromSeeds 24 = .ok (.invokevirtual 52, 3) := by decide +kernel
theorem dX7_startFromSeeds_27 : decode cX7_startFromSeeds 27 = .ok (.iinc 1 1, 3) := by decide +kernel
theorem dX7_startFromSeeds_30 : decode cX7_startFromSeeds 30 = .ok (.goto (-28), 3) := by decide +kernel
theorem dX7_startFromSeeds_33 : decode cX7_startFromSeeds 33 = .ok (.iconst 0, 1) := by decide +kernel
theorem dX7_startFromSeeds_34 : decode cX7_startFromSeeds 34 = .ok (.istore_n 1, 1) := by decide +kernel
theorem dX7_startFromSeeds_35 : decode cX7_startFromSeeds 35 = .ok (.iload_n 1, 1) := by decide +kernel
theorem dX7_startFromSeeds_36 : decode cX7_startFromSeeds 36 = .ok (.bipush 16, 2) := by decide +kernel
theorem dX7_startFromSeeds_38 : decode cX7_startFromSeeds 38 = .ok (.if_icmp .ge 27, 3) := by decide +kernel
theorem dX7_startFromSeeds_41 : decode cX7_startFromSeeds 41 = .ok (.aload_n 0, 1) := by decide +kernel
theorem dX7_startFromSeeds_42 : decode cX7_startFromSeeds 42 = .ok (.iload_n 1, 1) := by decide +kernel
theorem dX7_startFromSeeds_43 : decode cX7_startFromSeeds 43 = .ok (.invokevirtual 80, 3) := by decide +kernel
theorem dX7_startFromSeeds_46 : decode cX7_startFromSeeds 46 = .ok (.istore_n 2, 1) := by decide +kernel
theorem dX7_startFromSeeds_47 : decode cX7_startFromSeeds 47 = .ok (.iload_n 2, 1) := by decide +kernel
theorem dX7_startFromSeeds_48 : decode cX7_startFromSeeds 48 = .ok (.iconst (-1), 1) := by decide +kernel
theorem dX7_startFromSeeds_49 : decode cX7_startFromSeeds 49 = .ok (.if_icmp .eq 10, 3) := by decide +kernel
theorem dX7_startFromSeeds_52 : decode cX7_startFromSeeds 52 = .ok (.aload_n 0, 1) := by decide +kernel
theorem dX7_startFromSeeds_53 : decode cX7_startFromSeeds 53 = .ok (.iload_n 2, 1) := by decide +kernel
theorem dX7_startFromSeeds_54 : decode cX7_startFromSeeds 54 = .ok (.iconst 1, 1) := by decide +kernel
theorem dX7_startFromSeeds_55 : decode cX7_startFromSeeds 55 = .ok (.iconst 0, 1) := by decide +kernel
theorem dX7_startFromSeeds_56 : decode cX7_startFromSeeds 56 = .ok (.invokevirtual 52, 3) := by decide +kernel
theorem dX7_startFromSeeds_59 : decode cX7_startFromSeeds 59 = .ok (.iinc 1 1, 3) := by decide +kernel
theorem dX7_startFromSeeds_62 : decode cX7_startFromSeeds 62 = .ok (.goto (-27), 3) := by decide +kernel
theorem dX7_startFromSeeds_65 : decode cX7_startFromSeeds 65 = .ok (.return_, 1) := by decide +kernel
theorem dX7_lowestOf_0 : decode cX7_lowestOf 0 = .ok (.iconst (-1), 1) := by decide +kernel
theorem dX7_lowestOf_1 : decode cX7_lowestOf 1 = .ok (.istore_n 2, 1) := by decide +kernel
theorem dX7_lowestOf_2 : decode cX7_lowestOf 2 = .ok (.iconst 0, 1) := by decide +kernel
theorem dX7_lowestOf_3 : decode cX7_lowestOf 3 = .ok (.istore_n 3, 1) := by decide +kernel
theorem dX7_lowestOf_4 : decode cX7_lowestOf 4 = .ok (.iload_n 3, 1) := by decide +kernel
theorem dX7_lowestOf_5 : decode cX7_lowestOf 5 = .ok (.aload_n 0, 1) := by decide +kernel
theorem dX7_lowestOf_6 : decode cX7_lowestOf 6 = .ok (.getfield 40, 3) := by decide +kernel
theorem dX7_lowestOf_9 : decode cX7_lowestOf 9 = .ok (.if_icmp .ge 58, 3) := by decide +kernel
theorem dX7_lowestOf_12 : decode cX7_lowestOf 12 = .ok (.aload_n 0, 1) := by decide +kernel
theorem dX7_lowestOf_13 : decode cX7_lowestOf 13 = .ok (.getfield 27, 3) := by decide +kernel
theorem dX7_lowestOf_16 : decode cX7_lowestOf 16 = .ok (.iload_n 3, 1) := by decide +kernel
theorem dX7_lowestOf_17 : decode cX7_lowestOf 17 = .ok (.iaload, 1) := by decide +kernel
theorem dX7_lowestOf_18 : decode cX7_lowestOf 18 = .ok (.iconst 2, 1) := by decide +kernel
theorem dX7_lowestOf_19 : decode cX7_lowestOf 19 = .ok (.if_icmp .eq 42, 3) := by decide +kernel
theorem dX7_lowestOf_22 : decode cX7_lowestOf 22 = .ok (.aload_n 0, 1) := by decide +kernel
theorem dX7_lowestOf_23 : decode cX7_lowestOf 23 = .ok (.getfield 11, 3) := by decide +kernel
theorem dX7_lowestOf_26 : decode cX7_lowestOf 26 = .ok (.iload_n 3, 1) := by decide +kernel
theorem dX7_lowestOf_27 : decode cX7_lowestOf 27 = .ok (.iaload, 1) := by decide +kernel
theorem dX7_lowestOf_28 : decode cX7_lowestOf 28 = .ok (.aload_n 0, 1) := by decide +kernel
theorem dX7_lowestOf_29 : decode cX7_lowestOf 29 = .ok (.getfield 15, 3) := by decide +kernel
theorem dX7_lowestOf_32 : decode cX7_lowestOf 32 = .ok (.iload_n 3, 1) := by decide +kernel
theorem dX7_lowestOf_33 : decode cX7_lowestOf 33 = .ok (.iaload, 1) := by decide +kernel
theorem dX7_lowestOf_34 : decode cX7_lowestOf 34 = .ok (.invokestatic 48, 3) := by decide +kernel
theorem dX7_lowestOf_37 : decode cX7_lowestOf 37 = .ok (.iload_n 1, 1) := by decide +kernel
theorem dX7_lowestOf_38 : decode cX7_lowestOf 38 = .ok (.if_icmp .ne 23, 3) := by decide +kernel
theorem dX7_lowestOf_41 : decode cX7_lowestOf 41 = .ok (.iload_n 2, 1) := by decide +kernel
theorem dX7_lowestOf_42 : decode cX7_lowestOf 42 = .ok (.iconst (-1), 1) := by decide +kernel
theorem dX7_lowestOf_43 : decode cX7_lowestOf 43 = .ok (.if_icmp .eq 16, 3) := by decide +kernel
theorem dX7_lowestOf_46 : decode cX7_lowestOf 46 = .ok (.aload_n 0, 1) := by decide +kernel
theorem dX7_lowestOf_47 : decode cX7_lowestOf 47 = .ok (.iload_n 3, 1) := by decide +kernel
theorem dX7_lowestOf_48 : decode cX7_lowestOf 48 = .ok (.invokevirtual 68, 3) := by decide +kernel
theorem dX7_lowestOf_51 : decode cX7_lowestOf 51 = .ok (.aload_n 0, 1) := by decide +kernel
theorem dX7_lowestOf_52 : decode cX7_lowestOf 52 = .ok (.iload_n 2, 1) := by decide +kernel
theorem dX7_lowestOf_53 : decode cX7_lowestOf 53 = .ok (.invokevirtual 68, 3) := by decide +kernel
theorem dX7_lowestOf_56 : decode cX7_lowestOf 56 = .ok (.if_icmp .ge 5, 3) := by decide +kernel
theorem dX7_lowestOf_59 : decode cX7_lowestOf 59 = .ok (.iload_n 3, 1) := by decide +kernel
theorem dX7_lowestOf_60 : decode cX7_lowestOf 60 = .ok (.istore_n 2, 1) := by decide +kernel
theorem dX7_lowestOf_61 : decode cX7_lowestOf 61 = .ok (.iinc 3 1, 3) := by decide +kernel
theorem dX7_lowestOf_64 : decode cX7_lowestOf 64 = .ok (.goto (-60), 3) := by decide +kernel
theorem dX7_lowestOf_67 : decode cX7_lowestOf 67 = .ok (.iload_n 2, 1) := by decide +kernel
theorem dX7_lowestOf_68 : decode cX7_lowestOf 68 = .ok (.ireturn, 1) := by decide +kernel
theorem dX7_spread_0 : decode cX7_spread 0 = .ok (.iconst 0, 1) := by decide +kernel
theorem dX7_spread_1 : decode cX7_spread 1 = .ok (.istore 5, 2) := by decide +kernel
theorem dX7_spread_3 : decode cX7_spread 3 = .ok (.iconst 0, 1) := by decide +kernel
theorem dX7_spread_4 : decode cX7_spread 4 = .ok (.istore 6, 2) := by decide +kernel
theorem dX7_spread_6 : decode cX7_spread 6 = .ok (.iload 6, 2) := by decide +kernel
theorem dX7_spread_8 : decode cX7_spread 8 = .ok (.aload_n 0, 1) := by decide +kernel
theorem dX7_spread_9 : decode cX7_spread 9 = .ok (.getfield 40, 3) := by decide +kernel
theorem dX7_spread_12 : decode cX7_spread 12 = .ok (.if_icmp .ge 58, 3) := by decide +kernel
theorem dX7_spread_15 : decode cX7_spread 15 = .ok (.aload_n 0, 1) := by decide +kernel
theorem dX7_spread_16 : decode cX7_spread 16 = .ok (.getfield 24, 3) := by decide +kernel
theorem dX7_spread_19 : decode cX7_spread 19 = .ok (.iload 6, 2) := by decide +kernel
theorem dX7_spread_21 : decode cX7_spread 21 = .ok (.iaload, 1) := by decide +kernel
theorem dX7_spread_22 : decode cX7_spread 22 = .ok (.iconst 1, 1) := by decide +kernel
theorem dX7_spread_23 : decode cX7_spread 23 = .ok (.if_icmp .eq 41, 3) := by decide +kernel
theorem dX7_spread_26 : decode cX7_spread 26 = .ok (.aload_n 0, 1) := by decide +kernel
theorem dX7_spread_27 : decode cX7_spread 27 = .ok (.getfield 27, 3) := by decide +kernel
theorem dX7_spread_30 : decode cX7_spread 30 = .ok (.iload 6, 2) := by decide +kernel
theorem dX7_spread_32 : decode cX7_spread 32 = .ok (.iaload, 1) := by decide +kernel
theorem dX7_spread_33 : decode cX7_spread 33 = .ok (.iconst 2, 1) := by decide +kernel
theorem dX7_spread_34 : decode cX7_spread 34 = .ok (.if_icmp .eq 30, 3) := by decide +kernel
theorem dX7_spread_37 : decode cX7_spread 37 = .ok (.aload_n 0, 1) := by decide +kernel
theorem dX7_spread_38 : decode cX7_spread 38 = .ok (.iload 6, 2) := by decide +kernel
theorem dX7_spread_40 : decode cX7_spread 40 = .ok (.iload_n 1, 1) := by decide +kernel
theorem dX7_spread_41 : decode cX7_spread 41 = .ok (.iconst 1, 1) := by decide +kernel
theorem dX7_spread_42 : decode cX7_spread 42 = .ok (.isub, 1) := by decide +kernel
theorem dX7_spread_43 : decode cX7_spread 43 = .ok (.iload_n 2, 1) := by decide +kernel
theorem dX7_spread_44 : decode cX7_spread 44 = .ok (.iload_n 3, 1) := by decide +kernel
theorem dX7_spread_45 : decode cX7_spread 45 = .ok (.iload 4, 2) := by decide +kernel
theorem dX7_spread_47 : decode cX7_spread 47 = .ok (.invokevirtual 83, 3) := by decide +kernel
theorem dX7_spread_50 : decode cX7_spread 50 = .ok (.ifCond .eq 14, 3) := by decide +kernel
theorem dX7_spread_53 : decode cX7_spread 53 = .ok (.aload_n 0, 1) := by decide +kernel
theorem dX7_spread_54 : decode cX7_spread 54 = .ok (.iload 6, 2) := by decide +kernel
theorem dX7_spread_56 : decode cX7_spread 56 = .ok (.iconst 1, 1) := by decide +kernel
theorem dX7_spread_57 : decode cX7_spread 57 = .ok (.iload_n 1, 1) := by decide +kernel
theorem dX7_spread_58 : decode cX7_spread 58 = .ok (.invokevirtual 52, 3) := by decide +kernel
theorem dX7_spread_61 : decode cX7_spread 61 = .ok (.iconst 1, 1) := by decide +kernel
theorem dX7_spread_62 : decode cX7_spread 62 = .ok (.istore 5, 2) := by decide +kernel
theorem dX7_spread_64 : decode cX7_spread 64 = .ok (.iinc 6 1, 3) := by decide +kernel
theorem dX7_spread_67 : decode cX7_spread 67 = .ok (.goto (-61), 3) := by decide +kernel
theorem dX7_spread_70 : decode cX7_spread 70 = .ok (.iload 5, 2) := by decide +kernel
theorem dX7_spread_72 : decode cX7_spread 72 = .ok (.ireturn, 1) := by decide +kernel
theorem dX7_isReached_0 : decode cX7_isReached 0 = .ok (.iconst 0, 1) := by decide +kernel
theorem dX7_isReached_1 : decode cX7_isReached 1 = .ok (.istore 6, 2) := by decide +kernel
theorem dX7_isReached_3 : decode cX7_isReached 3 = .ok (.iload 6, 2) := by decide +kernel
theorem dX7_isReached_5 : decode cX7_isReached 5 = .ok (.aload_n 0, 1) := by decide +kernel
theorem dX7_isReached_6 : decode cX7_isReached 6 = .ok (.getfield 40, 3) := by decide +kernel
theorem dX7_isReached_9 : decode cX7_isReached 9 = .ok (.if_icmp .ge 47, 3) := by decide +kernel
theorem dX7_isReached_12 : decode cX7_isReached 12 = .ok (.aload_n 0, 1) := by decide +kernel
theorem dX7_isReached_13 : decode cX7_isReached 13 = .ok (.getfield 30, 3) := by decide +kernel
theorem dX7_isReached_16 : decode cX7_isReached 16 = .ok (.iload 6, 2) := by decide +kernel
theorem dX7_isReached_18 : decode cX7_isReached 18 = .ok (.iaload, 1) := by decide +kernel
theorem dX7_isReached_19 : decode cX7_isReached 19 = .ok (.iload_n 2, 1) := by decide +kernel
theorem dX7_isReached_20 : decode cX7_isReached 20 = .ok (.if_icmp .ne 30, 3) := by decide +kernel
theorem dX7_isReached_23 : decode cX7_isReached 23 = .ok (.aload_n 0, 1) := by decide +kernel
theorem dX7_isReached_24 : decode cX7_isReached 24 = .ok (.iload 6, 2) := by decide +kernel
theorem dX7_isReached_26 : decode cX7_isReached 26 = .ok (.iload_n 1, 1) := by decide +kernel
theorem dX7_isReached_27 : decode cX7_isReached 27 = .ok (.iload 5, 2) := by decide +kernel
theorem dX7_isReached_29 : decode cX7_isReached 29 = .ok (.invokevirtual 87, 3) := by decide +kernel
theorem dX7_isReached_32 : decode cX7_isReached 32 = .ok (.ifCond .eq 18, 3) := by decide +kernel
theorem dX7_isReached_35 : decode cX7_isReached 35 = .ok (.aload_n 0, 1) := by decide +kernel
theorem dX7_isReached_36 : decode cX7_isReached 36 = .ok (.iload 6, 2) := by decide +kernel
theorem dX7_isReached_38 : decode cX7_isReached 38 = .ok (.iload_n 1, 1) := by decide +kernel
theorem dX7_isReached_39 : decode cX7_isReached 39 = .ok (.iload_n 3, 1) := by decide +kernel
theorem dX7_isReached_40 : decode cX7_isReached 40 = .ok (.iload 4, 2) := by decide +kernel
theorem dX7_isReached_42 : decode cX7_isReached 42 = .ok (.invokevirtual 91, 3) := by decide +kernel
theorem dX7_isReached_45 : decode cX7_isReached 45 = .ok (.ifCond .eq 5, 3) := by decide +kernel
theorem dX7_isReached_48 : decode cX7_isReached 48 = .ok (.iconst 1, 1) := by decide +kernel
theorem dX7_isReached_49 : decode cX7_isReached 49 = .ok (.ireturn, 1) := by decide +kernel
theorem dX7_isReached_50 : decode cX7_isReached 50 = .ok (.iinc 6 1, 3) := by decide +kernel
theorem dX7_isReached_53 : decode cX7_isReached 53 = .ok (.goto (-50), 3) := by decide +kernel
theorem dX7_isReached_56 : decode cX7_isReached 56 = .ok (.iconst 0, 1) := by decide +kernel
theorem dX7_isReached_57 : decode cX7_isReached 57 = .ok (.ireturn, 1) := by decide +kernel
theorem dX7_squareOfWay_0 : decode cX7_squareOfWay 0 = .ok (.aload_n 0, 1) := by decide +kernel
theorem dX7_squareOfWay_1 : decode cX7_squareOfWay 1 = .ok (.getfield 11, 3) := by decide +kernel
theorem dX7_squareOfWay_4 : decode cX7_squareOfWay 4 = .ok (.iload_n 1, 1) := by decide +kernel
theorem dX7_squareOfWay_5 : decode cX7_squareOfWay 5 = .ok (.iaload, 1) := by decide +kernel
theorem dX7_squareOfWay_6 : decode cX7_squareOfWay 6 = .ok (.aload_n 0, 1) := by decide +kernel
theorem dX7_squareOfWay_7 : decode cX7_squareOfWay 7 = .ok (.getfield 11, 3) := by decide +kernel
theorem dX7_squareOfWay_10 : decode cX7_squareOfWay 10 = .ok (.iload_n 2, 1) := by decide +kernel
theorem dX7_squareOfWay_11 : decode cX7_squareOfWay 11 = .ok (.iaload, 1) := by decide +kernel
theorem dX7_squareOfWay_12 : decode cX7_squareOfWay 12 = .ok (.isub, 1) := by decide +kernel
theorem dX7_squareOfWay_13 : decode cX7_squareOfWay 13 = .ok (.istore_n 3, 1) := by decide +kernel
theorem dX7_squareOfWay_14 : decode cX7_squareOfWay 14 = .ok (.aload_n 0, 1) := by decide +kernel
theorem dX7_squareOfWay_15 : decode cX7_squareOfWay 15 = .ok (.getfield 15, 3) := by decide +kernel
theorem dX7_squareOfWay_18 : decode cX7_squareOfWay 18 = .ok (.iload_n 1, 1) := by decide +kernel
theorem dX7_squareOfWay_19 : decode cX7_squareOfWay 19 = .ok (.iaload, 1) := by decide +kernel
theorem dX7_squareOfWay_20 : decode cX7_squareOfWay 20 = .ok (.aload_n 0, 1) := by decide +kernel
theorem dX7_squareOfWay_21 : decode cX7_squareOfWay 21 = .ok (.getfield 15, 3) := by decide +kernel
theorem dX7_squareOfWay_24 : decode cX7_squareOfWay 24 = .ok (.iload_n 2, 1) := by decide +kernel
theorem dX7_squareOfWay_25 : decode cX7_squareOfWay 25 = .ok (.iaload, 1) := by decide +kernel
theorem dX7_squareOfWay_26 : decode cX7_squareOfWay 26 = .ok (.isub, 1) := by decide +kernel
theorem dX7_squareOfWay_27 : decode cX7_squareOfWay 27 = .ok (.istore 4, 2) := by decide +kernel
theorem dX7_squareOfWay_29 : decode cX7_squareOfWay 29 = .ok (.iload_n 3, 1) := by decide +kernel
theorem dX7_squareOfWay_30 : decode cX7_squareOfWay 30 = .ok (.iload_n 3, 1) := by decide +kernel
theorem dX7_squareOfWay_31 : decode cX7_squareOfWay 31 = .ok (.imul, 1) := by decide +kernel
theorem dX7_squareOfWay_32 : decode cX7_squareOfWay 32 = .ok (.iload 4, 2) := by decide +kernel
theorem dX7_squareOfWay_34 : decode cX7_squareOfWay 34 = .ok (.iload 4, 2) := by decide +kernel
theorem dX7_squareOfWay_36 : decode cX7_squareOfWay 36 = .ok (.imul, 1) := by decide +kernel
theorem dX7_squareOfWay_37 : decode cX7_squareOfWay 37 = .ok (.iadd, 1) := by decide +kernel
theorem dX7_squareOfWay_38 : decode cX7_squareOfWay 38 = .ok (.ireturn, 1) := by decide +kernel
theorem dX7_isNear_0 : decode cX7_isNear 0 = .ok (.aload_n 0, 1) := by decide +kernel
theorem dX7_isNear_1 : decode cX7_isNear 1 = .ok (.iload_n 1, 1) := by decide +kernel
theorem dX7_isNear_2 : decode cX7_isNear 2 = .ok (.iload_n 2, 1) := by decide +kernel
theorem dX7_isNear_3 : decode cX7_isNear 3 = .ok (.invokevirtual 94, 3) := by decide +kernel
theorem dX7_isNear_6 : decode cX7_isNear 6 = .ok (.iload_n 3, 1) := by decide +kernel
theorem dX7_isNear_7 : decode cX7_isNear 7 = .ok (.iload_n 3, 1) := by decide +kernel
theorem dX7_isNear_8 : decode cX7_isNear 8 = .ok (.imul, 1) := by decide +kernel
theorem dX7_isNear_9 : decode cX7_isNear 9 = .ok (.if_icmp .gt 7, 3) := by decide +kernel
theorem dX7_isNear_12 : decode cX7_isNear 12 = .ok (.iconst 1, 1) := by decide +kernel
theorem dX7_isNear_13 : decode cX7_isNear 13 = .ok (.goto 4, 3) := by decide +kernel
theorem dX7_isNear_16 : decode cX7_isNear 16 = .ok (.iconst 0, 1) := by decide +kernel
theorem dX7_isNear_17 : decode cX7_isNear 17 = .ok (.ireturn, 1) := by decide +kernel
theorem dX7_isEven_0 : decode cX7_isEven 0 = .ok (.iload 4, 2) := by decide +kernel
theorem dX7_isEven_2 : decode cX7_isEven 2 = .ok (.i2l, 1) := by decide +kernel
theorem dX7_isEven_3 : decode cX7_isEven 3 = .ok (.aload_n 0, 1) := by decide +kernel
theorem dX7_isEven_4 : decode cX7_isEven 4 = .ok (.iload_n 1, 1) := by decide +kernel
theorem dX7_isEven_5 : decode cX7_isEven 5 = .ok (.invokevirtual 68, 3) := by decide +kernel
theorem dX7_isEven_8 : decode cX7_isEven 8 = .ok (.aload_n 0, 1) := by decide +kernel
theorem dX7_isEven_9 : decode cX7_isEven 9 = .ok (.iload_n 2, 1) := by decide +kernel
theorem dX7_isEven_10 : decode cX7_isEven 10 = .ok (.invokevirtual 68, 3) := by decide +kernel
theorem dX7_isEven_13 : decode cX7_isEven 13 = .ok (.isub, 1) := by decide +kernel
theorem dX7_isEven_14 : decode cX7_isEven 14 = .ok (.i2l, 1) := by decide +kernel
theorem dX7_isEven_15 : decode cX7_isEven 15 = .ok (.lmul, 1) := by decide +kernel
theorem dX7_isEven_16 : decode cX7_isEven 16 = .ok (.lstore 5, 2) := by decide +kernel
theorem dX7_isEven_18 : decode cX7_isEven 18 = .ok (.lload 5, 2) := by decide +kernel
theorem dX7_isEven_20 : decode cX7_isEven 20 = .ok (.lload 5, 2) := by decide +kernel
theorem dX7_isEven_22 : decode cX7_isEven 22 = .ok (.lmul, 1) := by decide +kernel
theorem dX7_isEven_23 : decode cX7_isEven 23 = .ok (.iload_n 3, 1) := by decide +kernel
theorem dX7_isEven_24 : decode cX7_isEven 24 = .ok (.i2l, 1) := by decide +kernel
theorem dX7_isEven_25 : decode cX7_isEven 25 = .ok (.iload_n 3, 1) := by decide +kernel
theorem dX7_isEven_26 : decode cX7_isEven 26 = .ok (.i2l, 1) := by decide +kernel
theorem dX7_isEven_27 : decode cX7_isEven 27 = .ok (.lmul, 1) := by decide +kernel
theorem dX7_isEven_28 : decode cX7_isEven 28 = .ok (.aload_n 0, 1) := by decide +kernel
theorem dX7_isEven_29 : decode cX7_isEven 29 = .ok (.iload_n 1, 1) := by decide +kernel
theorem dX7_isEven_30 : decode cX7_isEven 30 = .ok (.iload_n 2, 1) := by decide +kernel
theorem dX7_isEven_31 : decode cX7_isEven 31 = .ok (.invokevirtual 94, 3) := by decide +kernel
theorem dX7_isEven_34 : decode cX7_isEven 34 = .ok (.i2l, 1) := by decide +kernel
theorem dX7_isEven_35 : decode cX7_isEven 35 = .ok (.lmul, 1) := by decide +kernel
theorem dX7_isEven_36 : decode cX7_isEven 36 = .ok (.lcmp, 1) := by decide +kernel
theorem dX7_isEven_37 : decode cX7_isEven 37 = .ok (.ifCond .gt 7, 3) := by decide +kernel
theorem dX7_isEven_40 : decode cX7_isEven 40 = .ok (.iconst 1, 1) := by decide +kernel
theorem dX7_isEven_41 : decode cX7_isEven 41 = .ok (.goto 4, 3) := by decide +kernel
theorem dX7_isEven_44 : decode cX7_isEven 44 = .ok (.iconst 0, 1) := by decide +kernel
theorem dX7_isEven_45 : decode cX7_isEven 45 = .ok (.ireturn, 1) := by decide +kernel
theorem dX8_init_0 : decode cX8_init 0 = .ok (.aload_n 0, 1) := by decide +kernel
theorem dX8_init_1 : decode cX8_init 1 = .ok (.invokespecial 1, 3) := by decide +kernel
theorem dX8_init_4 : decode cX8_init 4 = .ok (.aload_n 0, 1) := by decide +kernel
theorem dX8_init_5 : decode cX8_init 5 = .ok (.iconst 4, 1) := by decide +kernel
theorem dX8_init_6 : decode cX8_init 6 = .ok (.anewarray 9, 3) := by decide +kernel
theorem dX8_init_9 : decode cX8_init 9 = .ok (.putfield 11, 3) := by decide +kernel
theorem dX8_init_12 : decode cX8_init 12 = .ok (.aload_n 0, 1) := by decide +kernel
theorem dX8_init_13 : decode cX8_init 13 = .ok (.iconst 2, 1) := by decide +kernel
theorem dX8_init_14 : decode cX8_init 14 = .ok (.anewarray 15, 3) := by decide +kernel
theorem dX8_init_17 : decode cX8_init 17 = .ok (.putfield 17, 3) := by decide +kernel
theorem dX8_init_20 : decode cX8_init 20 = .ok (.aload_n 0, 1) := by decide +kernel
theorem dX8_init_21 : decode cX8_init 21 = .ok (.new 21, 3) := by decide +kernel
theorem dX8_init_24 : decode cX8_init 24 = .ok (.dup, 1) := by decide +kernel
theorem dX8_init_25 : decode cX8_init 25 = .ok (.invokespecial 23, 3) := by decide +kernel
theorem dX8_init_28 : decode cX8_init 28 = .ok (.putfield 24, 3) := by decide +kernel
theorem dX8_init_31 : decode cX8_init 31 = .ok (.aload_n 0, 1) := by decide +kernel
theorem dX8_init_32 : decode cX8_init 32 = .ok (.new 28, 3) := by decide +kernel
theorem dX8_init_35 : decode cX8_init 35 = .ok (.dup, 1) := by decide +kernel
theorem dX8_init_36 : decode cX8_init 36 = .ok (.invokespecial 30, 3) := by decide +kernel
theorem dX8_init_39 : decode cX8_init 39 = .ok (.putfield 31, 3) := by decide +kernel
theorem dX8_init_42 : decode cX8_init 42 = .ok (.aload_n 0, 1) := by decide +kernel
theorem dX8_init_43 : decode cX8_init 43 = .ok (.new 35, 3) := by decide +kernel
theorem dX8_init_46 : decode cX8_init 46 = .ok (.dup, 1) := by decide +kernel
theorem dX8_init_47 : decode cX8_init 47 = .ok (.invokespecial 37, 3) := by decide +kernel
theorem dX8_init_50 : decode cX8_init 50 = .ok (.putfield 38, 3) := by decide +kernel
theorem dX8_init_53 : decode cX8_init 53 = .ok (.aload_n 0, 1) := by decide +kernel
theorem dX8_init_54 : decode cX8_init 54 = .ok (.new 42, 3) := by decide +kernel
theorem dX8_init_57 : decode cX8_init 57 = .ok (.dup, 1) := by decide +kernel
theorem dX8_init_58 : decode cX8_init 58 = .ok (.invokespecial 44, 3) := by decide +kernel
theorem dX8_init_61 : decode cX8_init 61 = .ok (.putfield 45, 3) := by decide +kernel
theorem dX8_init_64 : decode cX8_init 64 = .ok (.aload_n 0, 1) := by decide +kernel
theorem dX8_init_65 : decode cX8_init 65 = .ok (.new 49, 3) := by decide +kernel
theorem dX8_init_68 : decode cX8_init 68 = .ok (.dup, 1) := by decide +kernel
theorem dX8_init_69 : decode cX8_init 69 = .ok (.invokespecial 51, 3) := by decide +kernel
theorem dX8_init_72 : decode cX8_init 72 = .ok (.putfield 52, 3) := by decide +kernel
theorem dX8_init_75 : decode cX8_init 75 = .ok (.aload_n 0, 1) := by decide +kernel
theorem dX8_init_76 : decode cX8_init 76 = .ok (.new 56, 3) := by decide +kernel
theorem dX8_init_79 : decode cX8_init 79 = .ok (.dup, 1) := by decide +kernel
theorem dX8_init_80 : decode cX8_init 80 = .ok (.invokespecial 58, 3) := by decide +kernel
theorem dX8_init_83 : decode cX8_init 83 = .ok (.putfield 59, 3) := by decide +kernel
theorem dX8_init_86 : decode cX8_init 86 = .ok (.aload_n 0, 1) := by decide +kernel
theorem dX8_init_87 : decode cX8_init 87 = .ok (.new 56, 3) := by decide +kernel
theorem dX8_init_90 : decode cX8_init 90 = .ok (.dup, 1) := by decide +kernel
theorem dX8_init_91 : decode cX8_init 91 = .ok (.invokespecial 58, 3) := by decide +kernel
theorem dX8_init_94 : decode cX8_init 94 = .ok (.putfield 63, 3) := by decide +kernel
theorem dX8_init_97 : decode cX8_init 97 = .ok (.iconst 0, 1) := by decide +kernel
theorem dX8_init_98 : decode cX8_init 98 = .ok (.istore_n 1, 1) := by decide +kernel
theorem dX8_init_99 : decode cX8_init 99 = .ok (.iload_n 1, 1) := by decide +kernel
theorem dX8_init_100 : decode cX8_init 100 = .ok (.iconst 4, 1) := by decide +kernel
theorem dX8_init_101 : decode cX8_init 101 = .ok (.if_icmp .ge 22, 3) := by decide +kernel
theorem dX8_init_104 : decode cX8_init 104 = .ok (.aload_n 0, 1) := by decide +kernel
theorem dX8_init_105 : decode cX8_init 105 = .ok (.getfield 11, 3) := by decide +kernel
theorem dX8_init_108 : decode cX8_init 108 = .ok (.iload_n 1, 1) := by decide +kernel
theorem dX8_init_109 : decode cX8_init 109 = .ok (.new 9, 3) := by decide +kernel
theorem dX8_init_112 : decode cX8_init 112 = .ok (.dup, 1) := by decide +kernel
theorem dX8_init_113 : decode cX8_init 113 = .ok (.invokespecial 66, 3) := by decide +kernel
theorem dX8_init_116 : decode cX8_init 116 = .ok (.aastore, 1) := by decide +kernel
theorem dX8_init_117 : decode cX8_init 117 = .ok (.iinc 1 1, 3) := by decide +kernel
theorem dX8_init_120 : decode cX8_init 120 = .ok (.goto (-21), 3) := by decide +kernel
theorem dX8_init_123 : decode cX8_init 123 = .ok (.iconst 0, 1) := by decide +kernel
theorem dX8_init_124 : decode cX8_init 124 = .ok (.istore_n 1, 1) := by decide +kernel
theorem dX8_init_125 : decode cX8_init 125 = .ok (.iload_n 1, 1) := by decide +kernel
theorem dX8_init_126 : decode cX8_init 126 = .ok (.iconst 2, 1) := by decide +kernel
theorem dX8_init_127 : decode cX8_init 127 = .ok (.if_icmp .ge 22, 3) := by decide +kernel
theorem dX8_init_130 : decode cX8_init 130 = .ok (.aload_n 0, 1) := by decide +kernel
theorem dX8_init_131 : decode cX8_init 131 = .ok (.getfield 17, 3) := by decide +kernel
theorem dX8_init_134 : decode cX8_init 134 = .ok (.iload_n 1, 1) := by decide +kernel
theorem dX8_init_135 : decode cX8_init 135 = .ok (.new 15, 3) := by decide +kernel
theorem dX8_init_138 : decode cX8_init 138 = .ok (.dup, 1) := by decide +kernel
theorem dX8_init_139 : decode cX8_init 139 = .ok (.invokespecial 67, 3) := by decide +kernel
theorem dX8_init_142 : decode cX8_init 142 = .ok (.aastore, 1) := by decide +kernel
theorem dX8_init_143 : decode cX8_init 143 = .ok (.iinc 1 1, 3) := by decide +kernel
theorem dX8_init_146 : decode cX8_init 146 = .ok (.goto (-21), 3) := by decide +kernel
theorem dX8_init_149 : decode cX8_init 149 = .ok (.return_, 1) := by decide +kernel
theorem dX8_sheet_0 : decode cX8_sheet 0 = .ok (.iload_n 1, 1) := by decide +kernel
theorem dX8_sheet_1 : decode cX8_sheet 1 = .ok (.invokestatic 68, 3) := by decide +kernel
theorem dX8_sheet_4 : decode cX8_sheet 4 = .ok (.ifCond .eq 16, 3) := by decide +kernel
theorem dX8_sheet_7 : decode cX8_sheet 7 = .ok (.iload_n 2, 1) := by decide +kernel
theorem dX8_sheet_8 : decode cX8_sheet 8 = .ok (.invokestatic 72, 3) := by decide +kernel
theorem dX8_sheet_11 : decode cX8_sheet 11 = .ok (.ifCond .eq 9, 3) := by decide +kernel
theorem dX8_sheet_14 : decode cX8_sheet 14 = .ok (.iload_n 3, 1) := by decide +kernel
theorem dX8_sheet_15 : decode cX8_sheet 15 = .ok (.bipush 40, 2) := by decide +kernel
theorem dX8_sheet_17 : decode cX8_sheet 17 = .ok (.if_icmp .le 5, 3) := by decide +kernel
theorem dX8_sheet_20 : decode cX8_sheet 20 = .ok (.iconst (-1), 1) := by decide +kernel
theorem dX8_sheet_21 : decode cX8_sheet 21 = .ok (.ireturn, 1) := by decide +kernel
theorem dX8_sheet_22 : decode cX8_sheet 22 = .ok (.iload_n 3, 1) := by decide +kernel
theorem dX8_sheet_23 : decode cX8_sheet 23 = .ok (.ifCond .ge 6, 3) := by decide +kernel
theorem dX8_sheet_26 : decode cX8_sheet 26 = .ok (.bipush (-14), 2) := by decide +kernel
theorem dX8_sheet_28 : decode cX8_sheet 28 = .ok (.ireturn, 1) := by decide +kernel
theorem dX8_sheet_29 : decode cX8_sheet 29 = .ok (.aload_n 0, 1) := by decide +kernel
theorem dX8_sheet_30 : decode cX8_sheet 30 = .ok (.getfield 11, 3) := by decide +kernel
theorem dX8_sheet_33 : decode cX8_sheet 33 = .ok (.iload_n 1, 1) := by decide +kernel
theorem dX8_sheet_34 : decode cX8_sheet 34 = .ok (.aaload, 1) := by decide +kernel
theorem dX8_sheet_35 : decode cX8_sheet 35 = .ok (.iload_n 2, 1) := by decide +kernel
theorem dX8_sheet_36 : decode cX8_sheet 36 = .ok (.iload_n 3, 1) := by decide +kernel
theorem dX8_sheet_37 : decode cX8_sheet 37 = .ok (.invokevirtual 75, 3) := by decide +kernel
theorem dX8_sheet_40 : decode cX8_sheet 40 = .ok (.iload_n 3, 1) := by decide +kernel
theorem dX8_sheet_41 : decode cX8_sheet 41 = .ok (.ireturn, 1) := by decide +kernel
theorem dX8_item_0 : decode cX8_item 0 = .ok (.iload_n 1, 1) := by decide +kernel
theorem dX8_item_1 : decode cX8_item 1 = .ok (.invokestatic 68, 3) := by decide +kernel
theorem dX8_item_4 : decode cX8_item 4 = .ok (.ifCond .eq 10, 3) := by decide +kernel
theorem dX8_item_7 : decode cX8_item 7 = .ok (.iload_n 2, 1) := by decide +kernel
theorem dX8_item_8 : decode cX8_item 8 = .ok (.invokestatic 72, 3) := by decide +kernel
theorem dX8_item_11 : decode cX8_item 11 = .ok (.ifCond .ne 5, 3) := by decide +kernel
theorem dX8_item_14 : decode cX8_item 14 = .ok (.iconst (-1), 1) := by decide +kernel
theorem dX8_item_15 : decode cX8_item 15 = .ok (.ireturn, 1) := by decide +kernel
theorem dX8_item_16 : decode cX8_item 16 = .ok (.aload_n 0, 1) := by decide +kernel
theorem dX8_item_17 : decode cX8_item 17 = .ok (.getfield 11, 3) := by decide +kernel
theorem dX8_item_20 : decode cX8_item 20 = .ok (.iload_n 1, 1) := by decide +kernel
theorem dX8_item_21 : decode cX8_item 21 = .ok (.aaload, 1) := by decide +kernel
theorem dX8_item_22 : decode cX8_item 22 = .ok (.astore 5, 2) := by decide +kernel
theorem dX8_item_24 : decode cX8_item 24 = .ok (.aload 5, 2) := by decide +kernel
theorem dX8_item_26 : decode cX8_item 26 = .ok (.invokevirtual 79, 3) := by decide +kernel
theorem dX8_item_29 : decode cX8_item 29 = .ok (.ifCond .ne 6, 3) := by decide +kernel
theorem dX8_item_32 : decode cX8_item 32 = .ok (.bipush (-11), 2) := by decide +kernel
theorem dX8_item_34 : decode cX8_item 34 = .ok (.ireturn, 1) := by decide +kernel
theorem dX8_item_35 : decode cX8_item 35 = .ok (.aload 5, 2) := by decide +kernel
theorem dX8_item_37 : decode cX8_item 37 = .ok (.getfield 90, 3) := by decide +kernel
theorem dX8_item_40 : decode cX8_item 40 = .ok (.iload_n 2, 1) := by decide +kernel
theorem dX8_item_41 : decode cX8_item 41 = .ok (.if_icmp .eq 6, 3) := by decide +kernel
theorem dX8_item_44 : decode cX8_item 44 = .ok (.bipush (-12), 2) := by decide +kernel
theorem dX8_item_46 : decode cX8_item 46 = .ok (.ireturn, 1) := by decide +kernel
theorem dX8_item_47 : decode cX8_item 47 = .ok (.aload 5, 2) := by decide +kernel
theorem dX8_item_49 : decode cX8_item 49 = .ok (.iload_n 3, 1) := by decide +kernel
theorem dX8_item_50 : decode cX8_item 50 = .ok (.iconst 1, 1) := by decide +kernel
theorem dX8_item_51 : decode cX8_item 51 = .ok (.invokevirtual 93, 3) := by decide +kernel
theorem dX8_item_54 : decode cX8_item 54 = .ok (.ifCond .ne 6, 3) := by decide +kernel
theorem dX8_item_57 : decode cX8_item 57 = .ok (.bipush (-13), 2) := by decide +kernel
theorem dX8_item_59 : decode cX8_item 59 = .ok (.ireturn, 1) := by decide +kernel
theorem dX8_item_60 : decode cX8_item 60 = .ok (.aload 5, 2) := by decide +kernel
theorem dX8_item_62 : decode cX8_item 62 = .ok (.iload_n 3, 1) := by decide +kernel
theorem dX8_item_63 : decode cX8_item 63 = .ok (.iload 4, 2) := by decide +kernel
theorem dX8_item_65 : decode cX8_item 65 = .ok (.invokevirtual 97, 3) := by decide +kernel
theorem dX8_item_68 : decode cX8_item 68 = .ok (.iconst 1, 1) := by decide +kernel
theorem dX8_item_69 : decode cX8_item 69 = .ok (.ireturn, 1) := by decide +kernel
theorem dX8_points_0 : decode cX8_points 0 = .ok (.iload_n 1, 1) := by decide +kernel
theorem dX8_points_1 : decode cX8_points 1 = .ok (.invokestatic 110, 3) := by decide +kernel
theorem dX8_points_4 : decode cX8_points 4 = .ok (.ifCond .eq 30, 3) := by decide +kernel
theorem dX8_points_7 : decode cX8_points 7 = .ok (.iload_n 2, 1) := by decide +kernel
theorem dX8_points_8 : decode cX8_points 8 = .ok (.invokestatic 68, 3) := by decide +kernel
theorem dX8_points_11 : decode cX8_points 11 = .ok (.ifCond .eq 23, 3) := by decide +kernel
theorem dX8_points_14 : decode cX8_points 14 = .ok (.iload_n 3, 1) := by decide +kernel
theorem dX8_points_15 : decode cX8_points 15 = .ok (.invokestatic 72, 3) := by decide +kernel
theorem dX8_points_18 : decode cX8_points 18 = .ok (.ifCond .eq 16, 3) := by decide +kernel
theorem dX8_points_21 : decode cX8_points 21 = .ok (.iload 5, 2) := by decide +kernel
theorem dX8_points_23 : decode cX8_points 23 = .ok (.iconst 1, 1) := by decide +kernel
theorem dX8_points_24 : decode cX8_points 24 = .ok (.if_icmp .lt 10, 3) := by decide +kernel
theorem dX8_points_27 : decode cX8_points 27 = .ok (.iload 5, 2) := by decide +kernel
theorem dX8_points_29 : decode cX8_points 29 = .ok (.bipush 10, 2) := by decide +kernel
theorem dX8_points_31 : decode cX8_points 31 = .ok (.if_icmp .le 5, 3) := by decide +kernel
theorem dX8_points_34 : decode cX8_points 34 = .ok (.iconst (-1), 1) := by decide +kernel
theorem dX8_points_35 : decode cX8_points 35 = .ok (.ireturn, 1) := by decide +kernel
theorem dX8_points_36 : decode cX8_points 36 = .ok (.aload_n 0, 1) := by decide +kernel
theorem dX8_points_37 : decode cX8_points 37 = .ok (.getfield 11, 3) := by decide +kernel
theorem dX8_points_40 : decode cX8_points 40 = .ok (.iload_n 2, 1) := by decide +kernel
theorem dX8_points_41 : decode cX8_points 41 = .ok (.aaload, 1) := by decide +kernel
theorem dX8_points_42 : decode cX8_points 42 = .ok (.astore 6, 2) := by decide +kernel
theorem dX8_points_44 : decode cX8_points 44 = .ok (.aload 6, 2) := by decide +kernel
theorem dX8_points_46 : decode cX8_points 46 = .ok (.invokevirtual 79, 3) := by decide +kernel
theorem dX8_points_49 : decode cX8_points 49 = .ok (.ifCond .ne 6, 3) := by decide +kernel
theorem dX8_points_52 : decode cX8_points 52 = .ok (.bipush (-11), 2) := by decide +kernel
theorem dX8_points_54 : decode cX8_points 54 = .ok (.ireturn, 1) := by decide +kernel
theorem dX8_points_55 : decode cX8_points 55 = .ok (.aload 6, 2) := by decide +kernel
theorem dX8_points_57 : decode cX8_points 57 = .ok (.getfield 90, 3) := by decide +kernel
theorem dX8_points_60 : decode cX8_points 60 = .ok (.iload_n 3, 1) := by decide +kernel
theorem dX8_points_61 : decode cX8_points 61 = .ok (.if_icmp .eq 6, 3) := by decide +kernel
theorem dX8_points_64 : decode cX8_points 64 = .ok (.bipush (-12), 2) := by decide +kernel
theorem dX8_points_66 : decode cX8_points 66 = .ok (.ireturn, 1) := by decide +kernel
theorem dX8_points_67 : decode cX8_points 67 = .ok (.aload 6, 2) := by decide +kernel
theorem dX8_points_69 : decode cX8_points 69 = .ok (.iload 4, 2) := by decide +kernel
theorem dX8_points_71 : decode cX8_points 71 = .ok (.iconst 4, 1) := by decide +kernel
theorem dX8_points_72 : decode cX8_points 72 = .ok (.iload 5, 2) := by decide +kernel
theorem dX8_points_74 : decode cX8_points 74 = .ok (.imul, 1) := by decide +kernel
theorem dX8_points_75 : decode cX8_points 75 = .ok (.invokevirtual 93, 3) := by decide +kernel
theorem dX8_points_78 : decode cX8_points 78 = .ok (.ifCond .ne 6, 3) := by decide +kernel
theorem dX8_points_81 : decode cX8_points 81 = .ok (.bipush (-13), 2) := by decide +kernel
theorem dX8_points_83 : decode cX8_points 83 = .ok (.ireturn, 1) := by decide +kernel
theorem dX8_points_84 : decode cX8_points 84 = .ok (.aload_n 0, 1) := by decide +kernel
theorem dX8_points_85 : decode cX8_points 85 = .ok (.getfield 17, 3) := by decide +kernel
theorem dX8_points_88 : decode cX8_points 88 = .ok (.iload_n 1, 1) := by decide +kernel
theorem dX8_points_89 : decode cX8_points 89 = .ok (.aaload, 1) := by decide +kernel
theorem dX8_points_90 : decode cX8_points 90 = .ok (.astore 7, 2) := by decide +kernel
theorem dX8_points_92 : decode cX8_points 92 = .ok (.aload 7, 2) := by decide +kernel
theorem dX8_points_94 : decode cX8_points 94 = .ok (.aload 6, 2) := by decide +kernel
theorem dX8_points_96 : decode cX8_points 96 = .ok (.getfield 100, 3) := by decide +kernel
theorem dX8_points_99 : decode cX8_points 99 = .ok (.iload 4, 2) := by decide +kernel
theorem dX8_points_101 : decode cX8_points 101 = .ok (.iload 5, 2) := by decide +kernel
theorem dX8_points_103 : decode cX8_points 103 = .ok (.invokevirtual 113, 3) := by decide +kernel
theorem dX8_points_106 : decode cX8_points 106 = .ok (.ifCond .ne 6, 3) := by decide +kernel
theorem dX8_points_109 : decode cX8_points 109 = .ok (.bipush (-2), 2) := by decide +kernel
theorem dX8_points_111 : decode cX8_points 111 = .ok (.ireturn, 1) := by decide +kernel
theorem dX8_points_112 : decode cX8_points 112 = .ok (.aload 7, 2) := by decide +kernel
theorem dX8_points_114 : decode cX8_points 114 = .ok (.getfield 117, 3) := by decide +kernel
theorem dX8_points_117 : decode cX8_points 117 = .ok (.iload 5, 2) := by decide +kernel
theorem dX8_points_119 : decode cX8_points 119 = .ok (.iadd, 1) := by decide +kernel
theorem dX8_points_120 : decode cX8_points 120 = .ok (.bipush 100, 2) := by decide +kernel
theorem dX8_points_122 : decode cX8_points 122 = .ok (.if_icmp .le 6, 3) := by decide +kernel
theorem dX8_points_125 : decode cX8_points 125 = .ok (.bipush (-3), 2) := by decide +kernel
theorem dX8_points_127 : decode cX8_points 127 = .ok (.ireturn, 1) := by decide +kernel
theorem dX8_points_128 : decode cX8_points 128 = .ok (.aload 7, 2) := by decide +kernel
theorem dX8_points_130 : decode cX8_points 130 = .ok (.aload 6, 2) := by decide +kernel
theorem dX8_points_132 : decode cX8_points 132 = .ok (.getfield 100, 3) := by decide +kernel
theorem dX8_points_135 : decode cX8_points 135 = .ok (.iload 4, 2) := by decide +kernel
theorem dX8_points_137 : decode cX8_points 137 = .ok (.iload 5, 2) := by decide +kernel
theorem dX8_points_139 : decode cX8_points 139 = .ok (.invokevirtual 118, 3) := by decide +kernel
theorem dX8_points_142 : decode cX8_points 142 = .ok (.aload 7, 2) := by decide +kernel
theorem dX8_points_144 : decode cX8_points 144 = .ok (.getfield 117, 3) := by decide +kernel
theorem dX8_points_147 : decode cX8_points 147 = .ok (.ireturn, 1) := by decide +kernel
theorem dX8_told_0 : decode cX8_told 0 = .ok (.iload_n 1, 1) := by decide +kernel
theorem dX8_told_1 : decode cX8_told 1 = .ok (.invokestatic 110, 3) := by decide +kernel
theorem dX8_told_4 : decode cX8_told 4 = .ok (.ifCond .eq 16, 3) := by decide +kernel
theorem dX8_told_7 : decode cX8_told 7 = .ok (.aload_n 0, 1) := by decide +kernel
theorem dX8_told_8 : decode cX8_told 8 = .ok (.getfield 17, 3) := by decide +kernel
theorem dX8_told_11 : decode cX8_told 11 = .ok (.iload_n 1, 1) := by decide +kernel
theorem dX8_told_12 : decode cX8_told 12 = .ok (.aaload, 1) := by decide +kernel
theorem dX8_told_13 : decode cX8_told 13 = .ok (.iload_n 2, 1) := by decide +kernel
theorem dX8_told_14 : decode cX8_told 14 = .ok (.invokevirtual 122, 3) := by decide +kernel
theorem dX8_told_17 : decode cX8_told 17 = .ok (.ifCond .ne 7, 3) := by decide +kernel
theorem dX8_told_20 : decode cX8_told 20 = .ok (.sipush (-10001), 3) := by decide +kernel
theorem dX8_told_23 : decode cX8_told 23 = .ok (.ireturn, 1) := by decide +kernel
theorem dX8_told_24 : decode cX8_told 24 = .ok (.aload_n 0, 1) := by decide +kernel
theorem dX8_told_25 : decode cX8_told 25 = .ok (.getfield 17, 3) := by decide +kernel
theorem dX8_told_28 : decode cX8_told 28 = .ok (.iload_n 1, 1) := by decide +kernel
theorem dX8_told_29 : decode cX8_told 29 = .ok (.aaload, 1) := by decide +kernel
theorem dX8_told_30 : decode cX8_told 30 = .ok (.astore 4, 2) := by decide +kernel
theorem dX8_told_32 : decode cX8_told 32 = .ok (.iload_n 3, 1) := by decide +kernel
theorem dX8_told_33 : decode cX8_told 33 = .ok (.tableswitch 98 0 6 #[43, 51, 59, 66, 74, 82, 90], 43) := by decide +kernel
theorem dX8_told_76 : decode cX8_told 76 = .ok (.aload 4, 2) := by decide +kernel
theorem dX8_told_78 : decode cX8_told 78 = .ok (.getfield 125, 3) := by decide +kernel
theorem dX8_told_81 : decode cX8_told 81 = .ok (.iload_n 2, 1) := by decide +kernel
theorem dX8_told_82 : decode cX8_told 82 = .ok (.iaload, 1) := by decide +kernel
theorem dX8_told_83 : decode cX8_told 83 = .ok (.ireturn, 1) := by decide +kernel
theorem dX8_told_84 : decode cX8_told 84 = .ok (.aload 4, 2) := by decide +kernel
theorem dX8_told_86 : decode cX8_told 86 = .ok (.getfield 128, 3) := by decide +kernel
theorem dX8_told_89 : decode cX8_told 89 = .ok (.iload_n 2, 1) := by decide +kernel
theorem dX8_told_90 : decode cX8_told 90 = .ok (.iaload, 1) := by decide +kernel
theorem dX8_told_91 : decode cX8_told 91 = .ok (.ireturn, 1) := by decide +kernel
theorem dX8_told_92 : decode cX8_told 92 = .ok (.aload 4, 2) := by decide +kernel
theorem dX8_told_94 : decode cX8_told 94 = .ok (.iload_n 2, 1) := by decide +kernel
theorem dX8_told_95 : decode cX8_told 95 = .ok (.invokevirtual 131, 3) := by decide +kernel
theorem dX8_told_98 : decode cX8_told 98 = .ok (.ireturn, 1) := by decide +kernel
theorem dX8_told_99 : decode cX8_told 99 = .ok (.aload 4, 2) := by decide +kernel
theorem dX8_told_101 : decode cX8_told 101 = .ok (.getfield 135, 3) := by decide +kernel
theorem dX8_told_104 : decode cX8_told 104 = .ok (.iload_n 2, 1) := by decide +kernel
theorem dX8_told_105 : decode cX8_told 105 = .ok (.iaload, 1) := by decide +kernel
theorem dX8_told_106 : decode cX8_told 106 = .ok (.ireturn, 1) := by decide +kernel
theorem dX8_told_107 : decode cX8_told 107 = .ok (.aload 4, 2) := by decide +kernel
theorem dX8_told_109 : decode cX8_told 109 = .ok (.getfield 138, 3) := by decide +kernel
theorem dX8_told_112 : decode cX8_told 112 = .ok (.iload_n 2, 1) := by decide +kernel
theorem dX8_told_113 : decode cX8_told 113 = .ok (.iaload, 1) := by decide +kernel
theorem dX8_told_114 : decode cX8_told 114 = .ok (.ireturn, 1) := by decide +kernel
theorem dX8_told_115 : decode cX8_told 115 = .ok (.aload 4, 2) := by decide +kernel
theorem dX8_told_117 : decode cX8_told 117 = .ok (.getfield 141, 3) := by decide +kernel
theorem dX8_told_120 : decode cX8_told 120 = .ok (.iload_n 2, 1) := by decide +kernel
theorem dX8_told_121 : decode cX8_told 121 = .ok (.iaload, 1) := by decide +kernel
theorem dX8_told_122 : decode cX8_told 122 = .ok (.ireturn, 1) := by decide +kernel
theorem dX8_told_123 : decode cX8_told 123 = .ok (.aload 4, 2) := by decide +kernel
theorem dX8_told_125 : decode cX8_told 125 = .ok (.getfield 144, 3) := by decide +kernel
theorem dX8_told_128 : decode cX8_told 128 = .ok (.iload_n 2, 1) := by decide +kernel
theorem dX8_told_129 : decode cX8_told 129 = .ok (.iaload, 1) := by decide +kernel
theorem dX8_told_130 : decode cX8_told 130 = .ok (.ireturn, 1) := by decide +kernel
theorem dX8_told_131 : decode cX8_told 131 = .ok (.sipush (-10001), 3) := by decide +kernel
theorem dX8_told_134 : decode cX8_told 134 = .ok (.ireturn, 1) := by decide +kernel
theorem dX8_grow_0 : decode cX8_grow 0 = .ok (.iload_n 1, 1) := by decide +kernel
theorem dX8_grow_1 : decode cX8_grow 1 = .ok (.invokestatic 110, 3) := by decide +kernel
theorem dX8_grow_4 : decode cX8_grow 4 = .ok (.ifCond .eq 37, 3) := by decide +kernel
theorem dX8_grow_7 : decode cX8_grow 7 = .ok (.iload_n 2, 1) := by decide +kernel
theorem dX8_grow_8 : decode cX8_grow 8 = .ok (.ifCond .lt 33, 3) := by decide +kernel
theorem dX8_grow_11 : decode cX8_grow 11 = .ok (.iload_n 2, 1) := by decide +kernel
theorem dX8_grow_12 : decode cX8_grow 12 = .ok (.bipush 100, 2) := by decide +kernel
theorem dX8_grow_14 : decode cX8_grow 14 = .ok (.if_icmp .gt 27, 3) := by decide +kernel
theorem dX8_grow_17 : decode cX8_grow 17 = .ok (.iload_n 3, 1) := by decide +kernel
theorem dX8_grow_18 : decode cX8_grow 18 = .ok (.iconst 1, 1) := by decide +kernel
theorem dX8_grow_19 : decode cX8_grow 19 = .ok (.if_icmp .lt 22, 3) := by decide +kernel
theorem dX8_grow_22 : decode cX8_grow 22 = .ok (.iload_n 3, 1) := by decide +kernel
theorem dX8_grow_23 : decode cX8_grow 23 = .ok (.bipush 100, 2) := by decide +kernel
theorem dX8_grow_25 : decode cX8_grow 25 = .ok (.if_icmp .gt 16, 3) := by decide +kernel
theorem dX8_grow_28 : decode cX8_grow 28 = .ok (.iload 4, 2) := by decide +kernel
theorem dX8_grow_30 : decode cX8_grow 30 = .ok (.iconst 1, 1) := by decide +kernel
theorem dX8_grow_31 : decode cX8_grow 31 = .ok (.if_icmp .lt 10, 3) := by decide +kernel
theorem dX8_grow_34 : decode cX8_grow 34 = .ok (.iload 4, 2) := by decide +kernel
theorem dX8_grow_36 : decode cX8_grow 36 = .ok (.bipush 20, 2) := by decide +kernel
theorem dX8_grow_38 : decode cX8_grow 38 = .ok (.if_icmp .le 5, 3) := by decide +kernel
theorem dX8_grow_41 : decode cX8_grow 41 = .ok (.iconst (-1), 1) := by decide +kernel
theorem dX8_grow_42 : decode cX8_grow 42 = .ok (.ireturn, 1) := by decide +kernel
theorem dX8_grow_43 : decode cX8_grow 43 = .ok (.aload_n 0, 1) := by decide +kernel
theorem dX8_grow_44 : decode cX8_grow 44 = .ok (.getfield 17, 3) := by decide +kernel
theorem dX8_grow_47 : decode cX8_grow 47 = .ok (.iload_n 1, 1) := by decide +kernel
theorem dX8_grow_48 : decode cX8_grow 48 = .ok (.aaload, 1) := by decide +kernel
theorem dX8_grow_49 : decode cX8_grow 49 = .ok (.iload_n 2, 1) := by decide +kernel
theorem dX8_grow_50 : decode cX8_grow 50 = .ok (.iload_n 3, 1) := by decide +kernel
theorem dX8_grow_51 : decode cX8_grow 51 = .ok (.iload 4, 2) := by decide +kernel
theorem dX8_grow_53 : decode cX8_grow 53 = .ok (.invokevirtual 182, 3) := by decide +kernel
theorem dX8_grow_56 : decode cX8_grow 56 = .ok (.ireturn, 1) := by decide +kernel
theorem dX8_count_0 : decode cX8_count 0 = .ok (.iload_n 1, 1) := by decide +kernel
theorem dX8_count_1 : decode cX8_count 1 = .ok (.invokestatic 110, 3) := by decide +kernel
theorem dX8_count_4 : decode cX8_count 4 = .ok (.ifCond .eq 13, 3) := by decide +kernel
theorem dX8_count_7 : decode cX8_count 7 = .ok (.iload_n 2, 1) := by decide +kernel
theorem dX8_count_8 : decode cX8_count 8 = .ok (.ifCond .lt 9, 3) := by decide +kernel
theorem dX8_count_11 : decode cX8_count 11 = .ok (.iload_n 2, 1) := by decide +kernel
theorem dX8_count_12 : decode cX8_count 12 = .ok (.bipush 13, 2) := by decide +kernel
theorem dX8_count_14 : decode cX8_count 14 = .ok (.if_icmp .le 5, 3) := by decide +kernel
theorem dX8_count_17 : decode cX8_count 17 = .ok (.iconst (-1), 1) := by decide +kernel
theorem dX8_count_18 : decode cX8_count 18 = .ok (.ireturn, 1) := by decide +kernel
theorem dX8_count_19 : decode cX8_count 19 = .ok (.aload_n 0, 1) := by decide +kernel
theorem dX8_count_20 : decode cX8_count 20 = .ok (.getfield 17, 3) := by decide +kernel
theorem dX8_count_23 : decode cX8_count 23 = .ok (.iload_n 1, 1) := by decide +kernel
theorem dX8_count_24 : decode cX8_count 24 = .ok (.aaload, 1) := by decide +kernel
theorem dX8_count_25 : decode cX8_count 25 = .ok (.astore_n 3, 1) := by decide +kernel
theorem dX8_count_26 : decode cX8_count 26 = .ok (.iload_n 2, 1) := by decide +kernel
theorem dX8_count_27 : decode cX8_count 27 = .ok (.bipush 11, 2) := by decide +kernel
theorem dX8_count_29 : decode cX8_count 29 = .ok (.if_icmp .ne 8, 3) := by decide +kernel
theorem dX8_count_32 : decode cX8_count 32 = .ok (.aload_n 3, 1) := by decide +kernel
theorem dX8_count_33 : decode cX8_count 33 = .ok (.getfield 117, 3) := by decide +kernel
theorem dX8_count_36 : decode cX8_count 36 = .ok (.ireturn, 1) := by decide +kernel
theorem dX8_count_37 : decode cX8_count 37 = .ok (.iload_n 2, 1) := by decide +kernel
theorem dX8_count_38 : decode cX8_count 38 = .ok (.bipush 12, 2) := by decide +kernel
theorem dX8_count_40 : decode cX8_count 40 = .ok (.if_icmp .ne 8, 3) := by decide +kernel
theorem dX8_count_43 : decode cX8_count 43 = .ok (.aload_n 3, 1) := by decide +kernel
theorem dX8_count_44 : decode cX8_count 44 = .ok (.invokevirtual 190, 3) := by decide +kernel
theorem dX8_count_47 : decode cX8_count 47 = .ok (.ireturn, 1) := by decide +kernel
theorem dX8_count_48 : decode cX8_count 48 = .ok (.iload_n 2, 1) := by decide +kernel
theorem dX8_count_49 : decode cX8_count 49 = .ok (.bipush 13, 2) := by decide +kernel
theorem dX8_count_51 : decode cX8_count 51 = .ok (.if_icmp .ne 19, 3) := by decide +kernel
theorem dX8_count_54 : decode cX8_count 54 = .ok (.aload_n 0, 1) := by decide +kernel
theorem dX8_count_55 : decode cX8_count 55 = .ok (.getfield 59, 3) := by decide +kernel
theorem dX8_count_58 : decode cX8_count 58 = .ok (.aload_n 3, 1) := by decide +kernel
theorem dX8_count_59 : decode cX8_count 59 = .ok (.invokevirtual 194, 3) := by decide +kernel
theorem dX8_count_62 : decode cX8_count 62 = .ok (.aload_n 0, 1) := by decide +kernel
theorem dX8_count_63 : decode cX8_count 63 = .ok (.getfield 59, 3) := by decide +kernel
theorem dX8_count_66 : decode cX8_count 66 = .ok (.invokevirtual 198, 3) := by decide +kernel
theorem dX8_count_69 : decode cX8_count 69 = .ok (.ireturn, 1) := by decide +kernel
theorem dX8_count_70 : decode cX8_count 70 = .ok (.aload_n 3, 1) := by decide +kernel
theorem dX8_count_71 : decode cX8_count 71 = .ok (.iload_n 2, 1) := by decide +kernel
theorem dX8_count_72 : decode cX8_count 72 = .ok (.invokevirtual 201, 3) := by decide +kernel
theorem dX8_count_75 : decode cX8_count 75 = .ok (.ireturn, 1) := by decide +kernel
theorem dX8_grid_0 : decode cX8_grid 0 = .ok (.iload_n 1, 1) := by decide +kernel
theorem dX8_grid_1 : decode cX8_grid 1 = .ok (.invokestatic 110, 3) := by decide +kernel
theorem dX8_grid_4 : decode cX8_grid 4 = .ok (.ifCond .eq 17, 3) := by decide +kernel
theorem dX8_grid_7 : decode cX8_grid 7 = .ok (.iload_n 2, 1) := by decide +kernel
theorem dX8_grid_8 : decode cX8_grid 8 = .ok (.invokestatic 204, 3) := by decide +kernel
theorem dX8_grid_11 : decode cX8_grid 11 = .ok (.ifCond .eq 10, 3) := by decide +kernel
theorem dX8_grid_14 : decode cX8_grid 14 = .ok (.iload_n 3, 1) := by decide +kernel
theorem dX8_grid_15 : decode cX8_grid 15 = .ok (.invokestatic 204, 3) := by decide +kernel
theorem dX8_grid_18 : decode cX8_grid 18 = .ok (.ifCond .ne 7, 3) := by decide +kernel
theorem dX8_grid_21 : decode cX8_grid 21 = .ok (.sipush (-10001), 3) := by decide +kernel
theorem dX8_grid_24 : decode cX8_grid 24 = .ok (.ireturn, 1) := by decide +kernel
theorem dX8_grid_25 : decode cX8_grid 25 = .ok (.aload_n 0, 1) := by decide +kernel
theorem dX8_grid_26 : decode cX8_grid 26 = .ok (.getfield 59, 3) := by decide +kernel
theorem dX8_grid_29 : decode cX8_grid 29 = .ok (.aload_n 0, 1) := by decide +kernel
theorem dX8_grid_30 : decode cX8_grid 30 = .ok (.getfield 17, 3) := by decide +kernel
theorem dX8_grid_33 : decode cX8_grid 33 = .ok (.iload_n 1, 1) := by decide +kernel
theorem dX8_grid_34 : decode cX8_grid 34 = .ok (.aaload, 1) := by decide +kernel
theorem dX8_grid_35 : decode cX8_grid 35 = .ok (.invokevirtual 194, 3) := by decide +kernel
theorem dX8_grid_38 : decode cX8_grid 38 = .ok (.aload_n 0, 1) := by decide +kernel
theorem dX8_grid_39 : decode cX8_grid 39 = .ok (.getfield 59, 3) := by decide +kernel
theorem dX8_grid_42 : decode cX8_grid 42 = .ok (.iload_n 2, 1) := by decide +kernel
theorem dX8_grid_43 : decode cX8_grid 43 = .ok (.iload_n 3, 1) := by decide +kernel
theorem dX8_grid_44 : decode cX8_grid 44 = .ok (.invokevirtual 207, 3) := by decide +kernel
theorem dX8_grid_47 : decode cX8_grid 47 = .ok (.ireturn, 1) := by decide +kernel
theorem dX8_volume_0 : decode cX8_volume 0 = .ok (.iload_n 1, 1) := by decide +kernel
theorem dX8_volume_1 : decode cX8_volume 1 = .ok (.invokestatic 110, 3) := by decide +kernel
theorem dX8_volume_4 : decode cX8_volume 4 = .ok (.ifCond .eq 10, 3) := by decide +kernel
theorem dX8_volume_7 : decode cX8_volume 7 = .ok (.iload_n 2, 1) := by decide +kernel
theorem dX8_volume_8 : decode cX8_volume 8 = .ok (.invokestatic 211, 3) := by decide +kernel
theorem dX8_volume_11 : decode cX8_volume 11 = .ok (.ifCond .ne 5, 3) := by decide +kernel
theorem dX8_volume_14 : decode cX8_volume 14 = .ok (.lconst 0, 1) := by decide +kernel
theorem dX8_volume_15 : decode cX8_volume 15 = .ok (.lreturn, 1) := by decide +kernel
theorem dX8_volume_16 : decode cX8_volume 16 = .ok (.aload_n 0, 1) := by decide +kernel
theorem dX8_volume_17 : decode cX8_volume 17 = .ok (.getfield 59, 3) := by decide +kernel
theorem dX8_volume_20 : decode cX8_volume 20 = .ok (.aload_n 0, 1) := by decide +kernel
theorem dX8_volume_21 : decode cX8_volume 21 = .ok (.getfield 17, 3) := by decide +kernel
theorem dX8_volume_24 : decode cX8_volume 24 = .ok (.iload_n 1, 1) := by decide +kernel
theorem dX8_volume_25 : decode cX8_volume 25 = .ok (.aaload, 1) := by decide +kernel
theorem dX8_volume_26 : decode cX8_volume 26 = .ok (.invokevirtual 194, 3) := by decide +kernel
theorem dX8_volume_29 : decode cX8_volume 29 = .ok (.aload_n 0, 1) := by decide +kernel
theorem dX8_volume_30 : decode cX8_volume 30 = .ok (.getfield 59, 3) := by decide +kernel
theorem dX8_volume_33 : decode cX8_volume 33 = .ok (.iload_n 2, 1) := by decide +kernel
theorem dX8_volume_34 : decode cX8_volume 34 = .ok (.invokevirtual 214, 3) := by decide +kernel
theorem dX8_volume_37 : decode cX8_volume 37 = .ok (.lreturn, 1) := by decide +kernel
theorem dX8_thirds_0 : decode cX8_thirds 0 = .ok (.iload_n 1, 1) := by decide +kernel
theorem dX8_thirds_1 : decode cX8_thirds 1 = .ok (.invokestatic 110, 3) := by decide +kernel
theorem dX8_thirds_4 : decode cX8_thirds 4 = .ok (.ifCond .ne 5, 3) := by decide +kernel
theorem dX8_thirds_7 : decode cX8_thirds 7 = .ok (.iconst (-1), 1) := by decide +kernel
theorem dX8_thirds_8 : decode cX8_thirds 8 = .ok (.ireturn, 1) := by decide +kernel
theorem dX8_thirds_9 : decode cX8_thirds 9 = .ok (.aload_n 0, 1) := by decide +kernel
theorem dX8_thirds_10 : decode cX8_thirds 10 = .ok (.getfield 59, 3) := by decide +kernel
theorem dX8_thirds_13 : decode cX8_thirds 13 = .ok (.aload_n 0, 1) := by decide +kernel
theorem dX8_thirds_14 : decode cX8_thirds 14 = .ok (.getfield 17, 3) := by decide +kernel
theorem dX8_thirds_17 : decode cX8_thirds 17 = .ok (.iload_n 1, 1) := by decide +kernel
theorem dX8_thirds_18 : decode cX8_thirds 18 = .ok (.aaload, 1) := by decide +kernel
theorem dX8_thirds_19 : decode cX8_thirds 19 = .ok (.invokevirtual 194, 3) := by decide +kernel
theorem dX8_thirds_22 : decode cX8_thirds 22 = .ok (.aload_n 0, 1) := by decide +kernel
theorem dX8_thirds_23 : decode cX8_thirds 23 = .ok (.getfield 59, 3) := by decide +kernel
theorem dX8_thirds_26 : decode cX8_thirds 26 = .ok (.invokevirtual 218, 3) := by decide +kernel
theorem dX8_thirds_29 : decode cX8_thirds 29 = .ok (.ireturn, 1) := by decide +kernel
theorem dX8_lines_0 : decode cX8_lines 0 = .ok (.iload_n 1, 1) := by decide +kernel
theorem dX8_lines_1 : decode cX8_lines 1 = .ok (.invokestatic 110, 3) := by decide +kernel
theorem dX8_lines_4 : decode cX8_lines 4 = .ok (.ifCond .eq 10, 3) := by decide +kernel
theorem dX8_lines_7 : decode cX8_lines 7 = .ok (.iload_n 2, 1) := by decide +kernel
theorem dX8_lines_8 : decode cX8_lines 8 = .ok (.invokestatic 211, 3) := by decide +kernel
theorem dX8_lines_11 : decode cX8_lines 11 = .ok (.ifCond .ne 5, 3) := by decide +kernel
theorem dX8_lines_14 : decode cX8_lines 14 = .ok (.iconst (-1), 1) := by decide +kernel
theorem dX8_lines_15 : decode cX8_lines 15 = .ok (.ireturn, 1) := by decide +kernel
theorem dX8_lines_16 : decode cX8_lines 16 = .ok (.aload_n 0, 1) := by decide +kernel
theorem dX8_lines_17 : decode cX8_lines 17 = .ok (.getfield 59, 3) := by decide +kernel
theorem dX8_lines_20 : decode cX8_lines 20 = .ok (.aload_n 0, 1) := by decide +kernel
theorem dX8_lines_21 : decode cX8_lines 21 = .ok (.getfield 17, 3) := by decide +kernel
theorem dX8_lines_24 : decode cX8_lines 24 = .ok (.iload_n 1, 1) := by decide +kernel
theorem dX8_lines_25 : decode cX8_lines 25 = .ok (.aaload, 1) := by decide +kernel
theorem dX8_lines_26 : decode cX8_lines 26 = .ok (.invokevirtual 194, 3) := by decide +kernel
theorem dX8_lines_29 : decode cX8_lines 29 = .ok (.aload_n 0, 1) := by decide +kernel
theorem dX8_lines_30 : decode cX8_lines 30 = .ok (.getfield 52, 3) := by decide +kernel
theorem dX8_lines_33 : decode cX8_lines 33 = .ok (.aload_n 0, 1) := by decide +kernel
theorem dX8_lines_34 : decode cX8_lines 34 = .ok (.getfield 59, 3) := by decide +kernel
theorem dX8_lines_37 : decode cX8_lines 37 = .ok (.iload_n 2, 1) := by decide +kernel
theorem dX8_lines_38 : decode cX8_lines 38 = .ok (.iload_n 3, 1) := by decide +kernel
theorem dX8_lines_39 : decode cX8_lines 39 = .ok (.invokevirtual 221, 3) := by decide +kernel
theorem dX8_lines_42 : decode cX8_lines 42 = .ok (.ireturn, 1) := by decide +kernel
theorem dX8_changed_0 : decode cX8_changed 0 = .ok (.iload_n 1, 1) := by decide +kernel
theorem dX8_changed_1 : decode cX8_changed 1 = .ok (.ifCond .lt 19, 3) := by decide +kernel
theorem dX8_changed_4 : decode cX8_changed 4 = .ok (.iload_n 1, 1) := by decide +kernel
theorem dX8_changed_5 : decode cX8_changed 5 = .ok (.sipush 1000, 3) := by decide +kernel
theorem dX8_changed_8 : decode cX8_changed 8 = .ok (.if_icmp .gt 12, 3) := by decide +kernel
theorem dX8_changed_11 : decode cX8_changed 11 = .ok (.iload_n 2, 1) := by decide +kernel
theorem dX8_changed_12 : decode cX8_changed 12 = .ok (.ifCond .lt 8, 3) := by decide +kernel
theorem dX8_changed_15 : decode cX8_changed 15 = .ok (.iload_n 2, 1) := by decide +kernel
theorem dX8_changed_16 : decode cX8_changed 16 = .ok (.iconst 3, 1) := by decide +kernel
theorem dX8_changed_17 : decode cX8_changed 17 = .ok (.if_icmp .le 6, 3) := by decide +kernel
theorem dX8_changed_20 : decode cX8_changed 20 = .ok (.ldc 225, 2) := by decide +kernel
theorem dX8_changed_22 : decode cX8_changed 22 = .ok (.ireturn, 1) := by decide +kernel
theorem dX8_changed_23 : decode cX8_changed 23 = .ok (.aload_n 0, 1) := by decide +kernel
theorem dX8_changed_24 : decode cX8_changed 24 = .ok (.getfield 59, 3) := by decide +kernel
theorem dX8_changed_27 : decode cX8_changed 27 = .ok (.aload_n 0, 1) := by decide +kernel
theorem dX8_changed_28 : decode cX8_changed 28 = .ok (.getfield 17, 3) := by decide +kernel
theorem dX8_changed_31 : decode cX8_changed 31 = .ok (.iconst 0, 1) := by decide +kernel
theorem dX8_changed_32 : decode cX8_changed 32 = .ok (.aaload, 1) := by decide +kernel
theorem dX8_changed_33 : decode cX8_changed 33 = .ok (.invokevirtual 194, 3) := by decide +kernel
theorem dX8_changed_36 : decode cX8_changed 36 = .ok (.aload_n 0, 1) := by decide +kernel
theorem dX8_changed_37 : decode cX8_changed 37 = .ok (.getfield 63, 3) := by decide +kernel
theorem dX8_changed_40 : decode cX8_changed 40 = .ok (.aload_n 0, 1) := by decide +kernel
theorem dX8_changed_41 : decode cX8_changed 41 = .ok (.getfield 17, 3) := by decide +kernel
theorem dX8_changed_44 : decode cX8_changed 44 = .ok (.iconst 1, 1) := by decide +kernel
theorem dX8_changed_45 : decode cX8_changed 45 = .ok (.aaload, 1) := by decide +kernel
theorem dX8_changed_46 : decode cX8_changed 46 = .ok (.invokevirtual 194, 3) := by decide +kernel
theorem dX8_changed_49 : decode cX8_changed 49 = .ok (.iload_n 2, 1) := by decide +kernel
theorem dX8_changed_50 : decode cX8_changed 50 = .ok (.tableswitch 64 0 2 #[26, 38, 51], 26) := by decide +kernel
theorem dX8_changed_76 : decode cX8_changed 76 = .ok (.aload_n 0, 1) := by decide +kernel
theorem dX8_changed_77 : decode cX8_changed 77 = .ok (.getfield 59, 3) := by decide +kernel
theorem dX8_changed_80 : decode cX8_changed 80 = .ok (.aload_n 0, 1) := by decide +kernel
theorem dX8_changed_81 : decode cX8_changed 81 = .ok (.getfield 63, 3) := by decide +kernel
theorem dX8_changed_84 : decode cX8_changed 84 = .ok (.invokevirtual 226, 3) := by decide +kernel
theorem dX8_changed_87 : decode cX8_changed 87 = .ok (.ireturn, 1) := by decide +kernel
theorem dX8_changed_88 : decode cX8_changed 88 = .ok (.aload_n 0, 1) := by decide +kernel
theorem dX8_changed_89 : decode cX8_changed 89 = .ok (.getfield 59, 3) := by decide +kernel
theorem dX8_changed_92 : decode cX8_changed 92 = .ok (.aload_n 0, 1) := by decide +kernel
theorem dX8_changed_93 : decode cX8_changed 93 = .ok (.getfield 63, 3) := by decide +kernel
theorem dX8_changed_96 : decode cX8_changed 96 = .ok (.iload_n 1, 1) := by decide +kernel
theorem dX8_changed_97 : decode cX8_changed 97 = .ok (.invokevirtual 230, 3) := by decide +kernel
theorem dX8_changed_100 : decode cX8_changed 100 = .ok (.ireturn, 1) := by decide +kernel
theorem dX8_changed_101 : decode cX8_changed 101 = .ok (.aload_n 0, 1) := by decide +kernel
theorem dX8_changed_102 : decode cX8_changed 102 = .ok (.getfield 63, 3) := by decide +kernel
theorem dX8_changed_105 : decode cX8_changed 105 = .ok (.aload_n 0, 1) := by decide +kernel
theorem dX8_changed_106 : decode cX8_changed 106 = .ok (.getfield 59, 3) := by decide +kernel
theorem dX8_changed_109 : decode cX8_changed 109 = .ok (.iload_n 1, 1) := by decide +kernel
theorem dX8_changed_110 : decode cX8_changed 110 = .ok (.invokevirtual 230, 3) := by decide +kernel
theorem dX8_changed_113 : decode cX8_changed 113 = .ok (.ireturn, 1) := by decide +kernel
theorem dX8_changed_114 : decode cX8_changed 114 = .ok (.aload_n 0, 1) := by decide +kernel
theorem dX8_changed_115 : decode cX8_changed 115 = .ok (.getfield 59, 3) := by decide +kernel
theorem dX8_changed_118 : decode cX8_changed 118 = .ok (.aload_n 0, 1) := by decide +kernel
theorem dX8_changed_119 : decode cX8_changed 119 = .ok (.getfield 63, 3) := by decide +kernel
theorem dX8_changed_122 : decode cX8_changed 122 = .ok (.invokevirtual 234, 3) := by decide +kernel
theorem dX8_changed_125 : decode cX8_changed 125 = .ok (.ireturn, 1) := by decide +kernel
theorem dX8_isYear_0 : decode cX8_isYear 0 = .ok (.iload_n 0, 1) := by decide +kernel
theorem dX8_isYear_1 : decode cX8_isYear 1 = .ok (.ifCond .lt 12, 3) := by decide +kernel
theorem dX8_isYear_4 : decode cX8_isYear 4 = .ok (.iload_n 0, 1) := by decide +kernel
theorem dX8_isYear_5 : decode cX8_isYear 5 = .ok (.iconst 2, 1) := by decide +kernel
theorem dX8_isYear_6 : decode cX8_isYear 6 = .ok (.if_icmp .ge 7, 3) := by decide +kernel
theorem dX8_isYear_9 : decode cX8_isYear 9 = .ok (.iconst 1, 1) := by decide +kernel
theorem dX8_isYear_10 : decode cX8_isYear 10 = .ok (.goto 4, 3) := by decide +kernel
theorem dX8_isYear_13 : decode cX8_isYear 13 = .ok (.iconst 0, 1) := by decide +kernel
theorem dX8_isYear_14 : decode cX8_isYear 14 = .ok (.ireturn, 1) := by decide +kernel
theorem dX8_isSheet_0 : decode cX8_isSheet 0 = .ok (.iload_n 0, 1) := by decide +kernel
theorem dX8_isSheet_1 : decode cX8_isSheet 1 = .ok (.ifCond .lt 12, 3) := by decide +kernel
theorem dX8_isSheet_4 : decode cX8_isSheet 4 = .ok (.iload_n 0, 1) := by decide +kernel
theorem dX8_isSheet_5 : decode cX8_isSheet 5 = .ok (.iconst 4, 1) := by decide +kernel
theorem dX8_isSheet_6 : decode cX8_isSheet 6 = .ok (.if_icmp .ge 7, 3) := by decide +kernel
theorem dX8_isSheet_9 : decode cX8_isSheet 9 = .ok (.iconst 1, 1) := by decide +kernel
theorem dX8_isSheet_10 : decode cX8_isSheet 10 = .ok (.goto 4, 3) := by decide +kernel
theorem dX8_isSheet_13 : decode cX8_isSheet 13 = .ok (.iconst 0, 1) := by decide +kernel
theorem dX8_isSheet_14 : decode cX8_isSheet 14 = .ok (.ireturn, 1) := by decide +kernel
theorem dX8_isLane_0 : decode cX8_isLane 0 = .ok (.iload_n 0, 1) := by decide +kernel
theorem dX8_isLane_1 : decode cX8_isLane 1 = .ok (.ifCond .lt 12, 3) := by decide +kernel
theorem dX8_isLane_4 : decode cX8_isLane 4 = .ok (.iload_n 0, 1) := by decide +kernel
theorem dX8_isLane_5 : decode cX8_isLane 5 = .ok (.iconst 3, 1) := by decide +kernel
theorem dX8_isLane_6 : decode cX8_isLane 6 = .ok (.if_icmp .ge 7, 3) := by decide +kernel
theorem dX8_isLane_9 : decode cX8_isLane 9 = .ok (.iconst 1, 1) := by decide +kernel
theorem dX8_isLane_10 : decode cX8_isLane 10 = .ok (.goto 4, 3) := by decide +kernel
theorem dX8_isLane_13 : decode cX8_isLane 13 = .ok (.iconst 0, 1) := by decide +kernel
theorem dX8_isLane_14 : decode cX8_isLane 14 = .ok (.ireturn, 1) := by decide +kernel
theorem dX8_isSquare_0 : decode cX8_isSquare 0 = .ok (.iload_n 0, 1) := by decide +kernel
theorem dX8_isSquare_1 : decode cX8_isSquare 1 = .ok (.ifCond .lt 13, 3) := by decide +kernel
theorem dX8_isSquare_4 : decode cX8_isSquare 4 = .ok (.iload_n 0, 1) := by decide +kernel
theorem dX8_isSquare_5 : decode cX8_isSquare 5 = .ok (.bipush 16, 2) := by decide +kernel
theorem dX8_isSquare_7 : decode cX8_isSquare 7 = .ok (.if_icmp .ge 7, 3) := by decide +kernel
theorem dX8_isSquare_10 : decode cX8_isSquare 10 = .ok (.iconst 1, 1) := by decide +kernel
theorem dX8_isSquare_11 : decode cX8_isSquare 11 = .ok (.goto 4, 3) := by decide +kernel
theorem dX8_isSquare_14 : decode cX8_isSquare 14 = .ok (.iconst 0, 1) := by decide +kernel
theorem dX8_isSquare_15 : decode cX8_isSquare 15 = .ok (.ireturn, 1) := by decide +kernel
theorem dX8_isLevel_0 : decode cX8_isLevel 0 = .ok (.iload_n 0, 1) := by decide +kernel
theorem dX8_isLevel_1 : decode cX8_isLevel 1 = .ok (.sipush (-10000), 3) := by decide +kernel
theorem dX8_isLevel_4 : decode cX8_isLevel 4 = .ok (.if_icmp .lt 14, 3) := by decide +kernel
theorem dX8_isLevel_7 : decode cX8_isLevel 7 = .ok (.iload_n 0, 1) := by decide +kernel
theorem dX8_isLevel_8 : decode cX8_isLevel 8 = .ok (.sipush 10000, 3) := by decide +kernel
theorem dX8_isLevel_11 : decode cX8_isLevel 11 = .ok (.if_icmp .gt 7, 3) := by decide +kernel
theorem dX8_isLevel_14 : decode cX8_isLevel 14 = .ok (.iconst 1, 1) := by decide +kernel
theorem dX8_isLevel_15 : decode cX8_isLevel 15 = .ok (.goto 4, 3) := by decide +kernel
theorem dX8_isLevel_18 : decode cX8_isLevel 18 = .ok (.iconst 0, 1) := by decide +kernel
theorem dX8_isLevel_19 : decode cX8_isLevel 19 = .ok (.ireturn, 1) := by decide +kernel
theorem dX8_tileOf_0 : decode cX8_tileOf 0 = .ok (.iload_n 0, 1) := by decide +kernel
theorem dX8_tileOf_1 : decode cX8_tileOf 1 = .ok (.bipush 16, 2) := by decide +kernel
theorem dX8_tileOf_3 : decode cX8_tileOf 3 = .ok (.idiv, 1) := by decide +kernel
theorem dX8_tileOf_4 : decode cX8_tileOf 4 = .ok (.iconst 4, 1) := by decide +kernel
theorem dX8_tileOf_5 : decode cX8_tileOf 5 = .ok (.iload_n 1, 1) := by decide +kernel
theorem dX8_tileOf_6 : decode cX8_tileOf 6 = .ok (.bipush 16, 2) := by decide +kernel
theorem dX8_tileOf_8 : decode cX8_tileOf 8 = .ok (.idiv, 1) := by decide +kernel
theorem dX8_tileOf_9 : decode cX8_tileOf 9 = .ok (.imul, 1) := by decide +kernel
theorem dX8_tileOf_10 : decode cX8_tileOf 10 = .ok (.iadd, 1) := by decide +kernel
theorem dX8_tileOf_11 : decode cX8_tileOf 11 = .ok (.ireturn, 1) := by decide +kernel
theorem dJ9_min_7cf53_0 : decode cJ9_min_7cf53 0 = .ok (.iload_n 0, 1) := by decide +kernel
theorem dJ9_min_7cf53_1 : decode cJ9_min_7cf53 1 = .ok (.iload_n 1, 1) := by decide +kernel
theorem dJ9_min_7cf53_2 : decode cJ9_min_7cf53 2 = .ok (.if_icmp .gt 7, 3) := by decide +kernel
theorem dJ9_min_7cf53_5 : decode cJ9_min_7cf53 5 = .ok (.iload_n 0, 1) := by decide +kernel
theorem dJ9_min_7cf53_6 : decode cJ9_min_7cf53 6 = .ok (.goto 4, 3) := by decide +kernel
theorem dJ9_min_7cf53_9 : decode cJ9_min_7cf53 9 = .ok (.iload_n 1, 1) := by decide +kernel
theorem dJ9_min_7cf53_10 : decode cJ9_min_7cf53 10 = .ok (.ireturn, 1) := by decide +kernel
theorem dJ7_fill_53178_0 : decode cJ7_fill_53178 0 = .ok (.iconst 0, 1) := by decide +kernel
theorem dJ7_fill_53178_1 : decode cJ7_fill_53178 1 = .ok (.istore_n 2, 1) := by decide +kernel
theorem dJ7_fill_53178_2 : decode cJ7_fill_53178 2 = .ok (.aload_n 0, 1) := by decide +kernel
theorem dJ7_fill_53178_3 : decode cJ7_fill_53178 3 = .ok (.arraylength, 1) := by decide +kernel
theorem dJ7_fill_53178_4 : decode cJ7_fill_53178 4 = .ok (.istore_n 3, 1) := by decide +kernel
theorem dJ7_fill_53178_5 : decode cJ7_fill_53178 5 = .ok (.iload_n 2, 1) := by decide +kernel
theorem dJ7_fill_53178_6 : decode cJ7_fill_53178 6 = .ok (.iload_n 3, 1) := by decide +kernel
theorem dJ7_fill_53178_7 : decode cJ7_fill_53178 7 = .ok (.if_icmp .ge 13, 3) := by decide +kernel
theorem dJ7_fill_53178_10 : decode cJ7_fill_53178 10 = .ok (.aload_n 0, 1) := by decide +kernel
theorem dJ7_fill_53178_11 : decode cJ7_fill_53178 11 = .ok (.iload_n 2, 1) := by decide +kernel
theorem dJ7_fill_53178_12 : decode cJ7_fill_53178 12 = .ok (.iload_n 1, 1) := by decide +kernel
theorem dJ7_fill_53178_13 : decode cJ7_fill_53178 13 = .ok (.iastore, 1) := by decide +kernel
theorem dJ7_fill_53178_14 : decode cJ7_fill_53178 14 = .ok (.iinc 2 1, 3) := by decide +kernel
theorem dJ7_fill_53178_17 : decode cJ7_fill_53178 17 = .ok (.goto (-12), 3) := by decide +kernel
theorem dJ7_fill_53178_20 : decode cJ7_fill_53178 20 = .ok (.return_, 1) := by decide +kernel
