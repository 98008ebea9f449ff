theorem dX9_in_0 : decode cX9_in 0 = .ok (.lload_n 0, 1) := by decide +kernel
theorem dX9_in_1 : decode cX9_in 1 = .ok (.lload_n 2, 1) := by decide +kernel
theorem dX9_in_2 : decode cX9_in 2 = .ok (.lcmp, 1) := by decide +kernel
theorem dX9_in_3 : decode cX9_in 3 = .ok (.ifCond .lt 14, 3) := by decide +kernel
theorem dX9_in_6 : decode cX9_in 6 = .ok (.lload_n 0, 1) := by decide +kernel
theorem dX9_in_7 : decode cX9_in 7 = .ok (.lload 4, 2) := by decide +kernel
theorem dX9_in_9 : decode cX9_in 9 = .ok (.lcmp, 1) := by decide +kernel
theorem dX9_in_10 : decode cX9_in 10 = .ok (.ifCond .gt 7, 3) := by decide +kernel
theorem dX9_in_13 : decode cX9_in 13 = .ok (.iconst 1, 1) := by decide +kernel
theorem dX9_in_14 : decode cX9_in 14 = .ok (.goto 4, 3) := by decide +kernel
theorem dX9_in_17 : decode cX9_in 17 = .ok (.iconst 0, 1) := by decide +kernel
theorem dX9_in_18 : decode cX9_in 18 = .ok (.ireturn, 1) := by decide +kernel
theorem dX9_init_0 : decode cX9_init 0 = .ok (.aload_n 0, 1) := by decide +kernel
theorem dX9_init_1 : decode cX9_init 1 = .ok (.invokespecial 1, 3) := by decide +kernel
theorem dX9_init_4 : decode cX9_init 4 = .ok (.aload_n 0, 1) := by decide +kernel
theorem dX9_init_5 : decode cX9_init 5 = .ok (.iconst 4, 1) := by decide +kernel
theorem dX9_init_6 : decode cX9_init 6 = .ok (.newarray .int, 2) := by decide +kernel
theorem dX9_init_8 : decode cX9_init 8 = .ok (.putfield 7, 3) := by decide +kernel
theorem dX9_init_11 : decode cX9_init 11 = .ok (.aload_n 0, 1) := by decide +kernel
theorem dX9_init_12 : decode cX9_init 12 = .ok (.iconst 4, 1) := by decide +kernel
theorem dX9_init_13 : decode cX9_init 13 = .ok (.newarray .int, 2) := by decide +kernel
theorem dX9_init_15 : decode cX9_init 15 = .ok (.putfield 13, 3) := by decide +kernel
theorem dX9_init_18 : decode cX9_init 18 = .ok (.aload_n 0, 1) := by decide +kernel
theorem dX9_init_19 : decode cX9_init 19 = .ok (.sipush 160, 3) := by decide +kernel
theorem dX9_init_22 : decode cX9_init 22 = .ok (.newarray .int, 2) := by decide +kernel
theorem dX9_init_24 : decode cX9_init 24 = .ok (.putfield 16, 3) := by decide +kernel
theorem dX9_init_27 : decode cX9_init 27 = .ok (.aload_n 0, 1) := by decide +kernel
theorem dX9_init_28 : decode cX9_init 28 = .ok (.bipush 40, 2) := by decide +kernel
theorem dX9_init_30 : decode cX9_init 30 = .ok (.newarray .int, 2) := by decide +kernel
theorem dX9_init_32 : decode cX9_init 32 = .ok (.putfield 19, 3) := by decide +kernel
theorem dX9_init_35 : decode cX9_init 35 = .ok (.aload_n 0, 1) := by decide +kernel
theorem dX9_init_36 : decode cX9_init 36 = .ok (.iconst 2, 1) := by decide +kernel
theorem dX9_init_37 : decode cX9_init 37 = .ok (.newarray .int, 2) := by decide +kernel
theorem dX9_init_39 : decode cX9_init 39 = .ok (.putfield 22, 3) := by decide +kernel
theorem dX9_init_42 : decode cX9_init 42 = .ok (.aload_n 0, 1) := by decide +kernel
theorem dX9_init_43 : decode cX9_init 43 = .ok (.sipush 200, 3) := by decide +kernel
theorem dX9_init_46 : decode cX9_init 46 = .ok (.newarray .int, 2) := by decide +kernel
theorem dX9_init_48 : decode cX9_init 48 = .ok (.putfield 25, 3) := by decide +kernel
theorem dX9_init_51 : decode cX9_init 51 = .ok (.aload_n 0, 1) := by decide +kernel
theorem dX9_init_52 : decode cX9_init 52 = .ok (.sipush 200, 3) := by decide +kernel
theorem dX9_init_55 : decode cX9_init 55 = .ok (.newarray .int, 2) := by decide +kernel
theorem dX9_init_57 : decode cX9_init 57 = .ok (.putfield 28, 3) := by decide +kernel
theorem dX9_init_60 : decode cX9_init 60 = .ok (.aload_n 0, 1) := by decide +kernel
theorem dX9_init_61 : decode cX9_init 61 = .ok (.sipush 200, 3) := by decide +kernel
theorem dX9_init_64 : decode cX9_init 64 = .ok (.newarray .int, 2) := by decide +kernel
theorem dX9_init_66 : decode cX9_init 66 = .ok (.putfield 31, 3) := by decide +kernel
theorem dX9_init_69 : decode cX9_init 69 = .ok (.aload_n 0, 1) := by decide +kernel
theorem dX9_init_70 : decode cX9_init 70 = .ok (.sipush 200, 3) := by decide +kernel
theorem dX9_init_73 : decode cX9_init 73 = .ok (.newarray .int, 2) := by decide +kernel
theorem dX9_init_75 : decode cX9_init 75 = .ok (.putfield 34, 3) := by decide +kernel
theorem dX9_init_78 : decode cX9_init 78 = .ok (.aload_n 0, 1) := by decide +kernel
theorem dX9_init_79 : decode cX9_init 79 = .ok (.sipush 200, 3) := by decide +kernel
theorem dX9_init_82 : decode cX9_init 82 = .ok (.newarray .int, 2) := by decide +kernel
theorem dX9_init_84 : decode cX9_init 84 = .ok (.putfield 37, 3) := by decide +kernel
theorem dX9_init_87 : decode cX9_init 87 = .ok (.aload_n 0, 1) := by decide +kernel
theorem dX9_init_88 : decode cX9_init 88 = .ok (.sipush 200, 3) := by decide +kernel
theorem dX9_init_91 : decode cX9_init 91 = .ok (.newarray .int, 2) := by decide +kernel
theorem dX9_init_93 : decode cX9_init 93 = .ok (.putfield 40, 3) := by decide +kernel
theorem dX9_init_96 : decode cX9_init 96 = .ok (.aload_n 0, 1) := by decide +kernel
theorem dX9_init_97 : decode cX9_init 97 = .ok (.sipush 200, 3) := by decide +kernel
theorem dX9_init_100 : decode cX9_init 100 = .ok (.newarray .int, 2) := by decide +kernel
theorem dX9_init_102 : decode cX9_init 102 = .ok (.putfield 43, 3) := by decide +kernel
theorem dX9_init_105 : decode cX9_init 105 = .ok (.aload_n 0, 1) := by decide +kernel
theorem dX9_init_106 : decode cX9_init 106 = .ok (.bipush 32, 2) := by decide +kernel
theorem dX9_init_108 : decode cX9_init 108 = .ok (.newarray .boolean, 2) := by decide +kernel
theorem dX9_init_110 : decode cX9_init 110 = .ok (.putfield 46, 3) := by decide +kernel
theorem dX9_init_113 : decode cX9_init 113 = .ok (.aload_n 0, 1) := by decide +kernel
theorem dX9_init_114 : decode cX9_init 114 = .ok (.bipush 8, 2) := by decide +kernel
theorem dX9_init_116 : decode cX9_init 116 = .ok (.newarray .int, 2) := by decide +kernel
theorem dX9_init_118 : decode cX9_init 118 = .ok (.putfield 50, 3) := by decide +kernel
theorem dX9_init_121 : decode cX9_init 121 = .ok (.aload_n 0, 1) := by decide +kernel
theorem dX9_init_122 : decode cX9_init 122 = .ok (.bipush 9, 2) := by decide +kernel
theorem dX9_init_124 : decode cX9_init 124 = .ok (.newarray .long, 2) := by decide +kernel
theorem dX9_init_126 : decode cX9_init 126 = .ok (.putfield 53, 3) := by decide +kernel
theorem dX9_init_129 : decode cX9_init 129 = .ok (.aload_n 0, 1) := by decide +kernel
theorem dX9_init_130 : decode cX9_init 130 = .ok (.iconst 3, 1) := by decide +kernel
theorem dX9_init_131 : decode cX9_init 131 = .ok (.newarray .long, 2) := by decide +kernel
theorem dX9_init_133 : decode cX9_init 133 = .ok (.putfield 57, 3) := by decide +kernel
theorem dX9_init_136 : decode cX9_init 136 = .ok (.aload_n 0, 1) := by decide +kernel
theorem dX9_init_137 : decode cX9_init 137 = .ok (.iconst 3, 1) := by decide +kernel
theorem dX9_init_138 : decode cX9_init 138 = .ok (.newarray .int, 2) := by decide +kernel
theorem dX9_init_140 : decode cX9_init 140 = .ok (.putfield 60, 3) := by decide +kernel
theorem dX9_init_143 : decode cX9_init 143 = .ok (.aload_n 0, 1) := by decide +kernel
theorem dX9_init_144 : decode cX9_init 144 = .ok (.bipush 40, 2) := by decide +kernel
theorem dX9_init_146 : decode cX9_init 146 = .ok (.newarray .int, 2) := by decide +kernel
theorem dX9_init_148 : decode cX9_init 148 = .ok (.putfield 63, 3) := by decide +kernel
theorem dX9_init_151 : decode cX9_init 151 = .ok (.aload_n 0, 1) := by decide +kernel
theorem dX9_init_152 : decode cX9_init 152 = .ok (.bipush 40, 2) := by decide +kernel
theorem dX9_init_154 : decode cX9_init 154 = .ok (.newarray .boolean, 2) := by decide +kernel
theorem dX9_init_156 : decode cX9_init 156 = .ok (.putfield 66, 3) := by decide +kernel
theorem dX9_init_159 : decode cX9_init 159 = .ok (.aload_n 0, 1) := by decide +kernel
theorem dX9_init_160 : decode cX9_init 160 = .ok (.sipush 256, 3) := by decide +kernel
theorem dX9_init_163 : decode cX9_init 163 = .ok (.newarray .int, 2) := by decide +kernel
theorem dX9_init_165 : decode cX9_init 165 = .ok (.putfield 69, 3) := by decide +kernel
theorem dX9_init_168 : decode cX9_init 168 = .ok (.aload_n 0, 1) := by decide +kernel
theorem dX9_init_169 : decode cX9_init 169 = .ok (.sipush 450, 3) := by decide +kernel
theorem dX9_init_172 : decode cX9_init 172 = .ok (.newarray .int, 2) := by decide +kernel
theorem dX9_init_174 : decode cX9_init 174 = .ok (.putfield 72, 3) := by decide +kernel
theorem dX9_init_177 : decode cX9_init 177 = .ok (.aload_n 0, 1) := by decide +kernel
theorem dX9_init_178 : decode cX9_init 178 = .ok (.sipush 256, 3) := by decide +kernel
theorem dX9_init_181 : decode cX9_init 181 = .ok (.newarray .int, 2) := by decide +kernel
theorem dX9_init_183 : decode cX9_init 183 = .ok (.putfield 75, 3) := by decide +kernel
theorem dX9_init_186 : decode cX9_init 186 = .ok (.aload_n 0, 1) := by decide +kernel
theorem dX9_init_187 : decode cX9_init 187 = .ok (.bipush 80, 2) := by decide +kernel
theorem dX9_init_189 : decode cX9_init 189 = .ok (.newarray .int, 2) := by decide +kernel
theorem dX9_init_191 : decode cX9_init 191 = .ok (.putfield 78, 3) := by decide +kernel
theorem dX9_init_194 : decode cX9_init 194 = .ok (.aload_n 0, 1) := by decide +kernel
theorem dX9_init_195 : decode cX9_init 195 = .ok (.bipush 80, 2) := by decide +kernel
theorem dX9_init_197 : decode cX9_init 197 = .ok (.newarray .int, 2) := by decide +kernel
theorem dX9_init_199 : decode cX9_init 199 = .ok (.putfield 81, 3) := by decide +kernel
theorem dX9_init_202 : decode cX9_init 202 = .ok (.aload_n 0, 1) := by decide +kernel
theorem dX9_init_203 : decode cX9_init 203 = .ok (.sipush 240, 3) := by decide +kernel
theorem dX9_init_206 : decode cX9_init 206 = .ok (.newarray .int, 2) := by decide +kernel
theorem dX9_init_208 : decode cX9_init 208 = .ok (.putfield 84, 3) := by decide +kernel
theorem dX9_init_211 : decode cX9_init 211 = .ok (.iconst 0, 1) := by decide +kernel
theorem dX9_init_212 : decode cX9_init 212 = .ok (.istore_n 1, 1) := by decide +kernel
theorem dX9_init_213 : decode cX9_init 213 = .ok (.iload_n 1, 1) := by decide +kernel
theorem dX9_init_214 : decode cX9_init 214 = .ok (.iconst 4, 1) := by decide +kernel
theorem dX9_init_215 : decode cX9_init 215 = .ok (.if_icmp .ge 16, 3) := by decide +kernel
theorem dX9_init_218 : decode cX9_init 218 = .ok (.aload_n 0, 1) := by decide +kernel
theorem dX9_init_219 : decode cX9_init 219 = .ok (.getfield 7, 3) := by decide +kernel
theorem dX9_init_222 : decode cX9_init 222 = .ok (.iload_n 1, 1) := by decide +kernel
theorem dX9_init_223 : decode cX9_init 223 = .ok (.iconst (-1), 1) := by decide +kernel
theorem dX9_init_224 : decode cX9_init 224 = .ok (.iastore, 1) := by decide +kernel
theorem dX9_init_225 : decode cX9_init 225 = .ok (.iinc 1 1, 3) := by decide +kernel
theorem dX9_init_228 : decode cX9_init 228 = .ok (.goto (-15), 3) := by decide +kernel
theorem dX9_init_231 : decode cX9_init 231 = .ok (.return_, 1) := by decide +kernel
theorem dX9_isSheet_0 : decode cX9_isSheet 0 = .ok (.iload_n 0, 1) := by decide +kernel
theorem dX9_isSheet_1 : decode cX9_isSheet 1 = .ok (.i2l, 1) := by decide +kernel
theorem dX9_isSheet_2 : decode cX9_isSheet 2 = .ok (.lconst 0, 1) := by decide +kernel
theorem dX9_isSheet_3 : decode cX9_isSheet 3 = .ok (.ldc2_w 87, 3) := by decide +kernel
theorem dX9_isSheet_6 : decode cX9_isSheet 6 = .ok (.invokestatic 89, 3) := by decide +kernel
theorem dX9_isSheet_9 : decode cX9_isSheet 9 = .ok (.ifCond .eq 19, 3) := by decide +kernel
theorem dX9_isSheet_12 : decode cX9_isSheet 12 = .ok (.iload_n 1, 1) := by decide +kernel
theorem dX9_isSheet_13 : decode cX9_isSheet 13 = .ok (.i2l, 1) := by decide +kernel
theorem dX9_isSheet_14 : decode cX9_isSheet 14 = .ok (.lconst 0, 1) := by decide +kernel
theorem dX9_isSheet_15 : decode cX9_isSheet 15 = .ok (.ldc2_w 93, 3) := by decide +kernel
theorem dX9_isSheet_18 : decode cX9_isSheet 18 = .ok (.invokestatic 89, 3) := by decide +kernel
theorem dX9_isSheet_21 : decode cX9_isSheet 21 = .ok (.ifCond .eq 7, 3) := by decide +kernel
theorem dX9_isSheet_24 : decode cX9_isSheet 24 = .ok (.iconst 1, 1) := by decide +kernel
theorem dX9_isSheet_25 : decode cX9_isSheet 25 = .ok (.goto 4, 3) := by decide +kernel
theorem dX9_isSheet_28 : decode cX9_isSheet 28 = .ok (.iconst 0, 1) := by decide +kernel
theorem dX9_isSheet_29 : decode cX9_isSheet 29 = .ok (.ireturn, 1) := by decide +kernel
theorem dX9_sheet_0 : decode cX9_sheet 0 = .ok (.iload_n 1, 1) := by decide +kernel
theorem dX9_sheet_1 : decode cX9_sheet 1 = .ok (.iload_n 2, 1) := by decide +kernel
theorem dX9_sheet_2 : decode cX9_sheet 2 = .ok (.invokestatic 95, 3) := by decide +kernel
theorem dX9_sheet_5 : decode cX9_sheet 5 = .ok (.ifCond .eq 9, 3) := by decide +kernel
theorem dX9_sheet_8 : decode cX9_sheet 8 = .ok (.iload_n 3, 1) := by decide +kernel
theorem dX9_sheet_9 : decode cX9_sheet 9 = .ok (.bipush 40, 2) := by decide +kernel
theorem dX9_sheet_11 : decode cX9_sheet 11 = .ok (.if_icmp .le 5, 3) := by decide +kernel
theorem dX9_sheet_14 : decode cX9_sheet 14 = .ok (.iconst (-1), 1) := by decide +kernel
theorem dX9_sheet_15 : decode cX9_sheet 15 = .ok (.ireturn, 1) := by decide +kernel
theorem dX9_sheet_16 : decode cX9_sheet 16 = .ok (.iload_n 3, 1) := by decide +kernel
theorem dX9_sheet_17 : decode cX9_sheet 17 = .ok (.ifCond .ge 6, 3) := by decide +kernel
theorem dX9_sheet_20 : decode cX9_sheet 20 = .ok (.bipush (-14), 2) := by decide +kernel
theorem dX9_sheet_22 : decode cX9_sheet 22 = .ok (.ireturn, 1) := by decide +kernel
theorem dX9_sheet_23 : decode cX9_sheet 23 = .ok (.aload_n 0, 1) := by decide +kernel
theorem dX9_sheet_24 : decode cX9_sheet 24 = .ok (.getfield 7, 3) := by decide +kernel
theorem dX9_sheet_27 : decode cX9_sheet 27 = .ok (.iload_n 1, 1) := by decide +kernel
theorem dX9_sheet_28 : decode cX9_sheet 28 = .ok (.iload_n 2, 1) := by decide +kernel
theorem dX9_sheet_29 : decode cX9_sheet 29 = .ok (.iastore, 1) := by decide +kernel
theorem dX9_sheet_30 : decode cX9_sheet 30 = .ok (.aload_n 0, 1) := by decide +kernel
theorem dX9_sheet_31 : decode cX9_sheet 31 = .ok (.getfield 13, 3) := by decide +kernel
theorem dX9_sheet_34 : decode cX9_sheet 34 = .ok (.iload_n 1, 1) := by decide +kernel
theorem dX9_sheet_35 : decode cX9_sheet 35 = .ok (.iload_n 3, 1) := by decide +kernel
theorem dX9_sheet_36 : decode cX9_sheet 36 = .ok (.iastore, 1) := by decide +kernel
theorem dX9_sheet_37 : decode cX9_sheet 37 = .ok (.iconst 0, 1) := by decide +kernel
theorem dX9_sheet_38 : decode cX9_sheet 38 = .ok (.istore 4, 2) := by decide +kernel
theorem dX9_sheet_40 : decode cX9_sheet 40 = .ok (.iload 4, 2) := by decide +kernel
theorem dX9_sheet_42 : decode cX9_sheet 42 = .ok (.bipush 40, 2) := by decide +kernel
theorem dX9_sheet_44 : decode cX9_sheet 44 = .ok (.if_icmp .ge 22, 3) := by decide +kernel
theorem dX9_sheet_47 : decode cX9_sheet 47 = .ok (.aload_n 0, 1) := by decide +kernel
theorem dX9_sheet_48 : decode cX9_sheet 48 = .ok (.getfield 16, 3) := by decide +kernel
theorem dX9_sheet_51 : decode cX9_sheet 51 = .ok (.bipush 40, 2) := by decide +kernel
theorem dX9_sheet_53 : decode cX9_sheet 53 = .ok (.iload_n 1, 1) := by decide +kernel
theorem dX9_sheet_54 : decode cX9_sheet 54 = .ok (.imul, 1) := by decide +kernel
theorem dX9_sheet_55 : decode cX9_sheet 55 = .ok (.iload 4, 2) := by decide +kernel
theorem dX9_sheet_57 : decode cX9_sheet 57 = .ok (.iadd, 1) := by decide +kernel
theorem dX9_sheet_58 : decode cX9_sheet 58 = .ok (.iconst 0, 1) := by decide +kernel
theorem dX9_sheet_59 : decode cX9_sheet 59 = .ok (.iastore, 1) := by decide +kernel
theorem dX9_sheet_60 : decode cX9_sheet 60 = .ok (.iinc 4 1, 3) := by decide +kernel
theorem dX9_sheet_63 : decode cX9_sheet 63 = .ok (.goto (-23), 3) := by decide +kernel
theorem dX9_sheet_66 : decode cX9_sheet 66 = .ok (.iload_n 3, 1) := by decide +kernel
theorem dX9_sheet_67 : decode cX9_sheet 67 = .ok (.ireturn, 1) := by decide +kernel
theorem dX9_drop_0 : decode cX9_drop 0 = .ok (.iload_n 1, 1) := by decide +kernel
theorem dX9_drop_1 : decode cX9_drop 1 = .ok (.i2l, 1) := by decide +kernel
theorem dX9_drop_2 : decode cX9_drop 2 = .ok (.lconst 0, 1) := by decide +kernel
theorem dX9_drop_3 : decode cX9_drop 3 = .ok (.ldc2_w 87, 3) := by decide +kernel
theorem dX9_drop_6 : decode cX9_drop 6 = .ok (.invokestatic 89, 3) := by decide +kernel
theorem dX9_drop_9 : decode cX9_drop 9 = .ok (.ifCond .ne 5, 3) := by decide +kernel
theorem dX9_drop_12 : decode cX9_drop 12 = .ok (.iconst (-1), 1) := by decide +kernel
theorem dX9_drop_13 : decode cX9_drop 13 = .ok (.ireturn, 1) := by decide +kernel
theorem dX9_drop_14 : decode cX9_drop 14 = .ok (.aload_n 0, 1) := by decide +kernel
theorem dX9_drop_15 : decode cX9_drop 15 = .ok (.getfield 7, 3) := by decide +kernel
theorem dX9_drop_18 : decode cX9_drop 18 = .ok (.iload_n 1, 1) := by decide +kernel
theorem dX9_drop_19 : decode cX9_drop 19 = .ok (.iaload, 1) := by decide +kernel
theorem dX9_drop_20 : decode cX9_drop 20 = .ok (.ifCond .ge 6, 3) := by decide +kernel
theorem dX9_drop_23 : decode cX9_drop 23 = .ok (.bipush (-11), 2) := by decide +kernel
theorem dX9_drop_25 : decode cX9_drop 25 = .ok (.ireturn, 1) := by decide +kernel
theorem dX9_drop_26 : decode cX9_drop 26 = .ok (.aload_n 0, 1) := by decide +kernel
theorem dX9_drop_27 : decode cX9_drop 27 = .ok (.getfield 7, 3) := by decide +kernel
theorem dX9_drop_30 : decode cX9_drop 30 = .ok (.iload_n 1, 1) := by decide +kernel
theorem dX9_drop_31 : decode cX9_drop 31 = .ok (.iconst (-1), 1) := by decide +kernel
theorem dX9_drop_32 : decode cX9_drop 32 = .ok (.iastore, 1) := by decide +kernel
theorem dX9_drop_33 : decode cX9_drop 33 = .ok (.aload_n 0, 1) := by decide +kernel
theorem dX9_drop_34 : decode cX9_drop 34 = .ok (.getfield 13, 3) := by decide +kernel
theorem dX9_drop_37 : decode cX9_drop 37 = .ok (.iload_n 1, 1) := by decide +kernel
theorem dX9_drop_38 : decode cX9_drop 38 = .ok (.iaload, 1) := by decide +kernel
theorem dX9_drop_39 : decode cX9_drop 39 = .ok (.ireturn, 1) := by decide +kernel
theorem dX9_against_0 : decode cX9_against 0 = .ok (.aload_n 0, 1) := by decide +kernel
theorem dX9_against_1 : decode cX9_against 1 = .ok (.getfield 7, 3) := by decide +kernel
theorem dX9_against_4 : decode cX9_against 4 = .ok (.iload_n 1, 1) := by decide +kernel
theorem dX9_against_5 : decode cX9_against 5 = .ok (.iaload, 1) := by decide +kernel
theorem dX9_against_6 : decode cX9_against 6 = .ok (.iload_n 2, 1) := by decide +kernel
theorem dX9_against_7 : decode cX9_against 7 = .ok (.if_icmp .ne 7, 3) := by decide +kernel
theorem dX9_against_10 : decode cX9_against 10 = .ok (.iconst 0, 1) := by decide +kernel
theorem dX9_against_11 : decode cX9_against 11 = .ok (.goto 19, 3) := by decide +kernel
theorem dX9_against_14 : decode cX9_against 14 = .ok (.aload_n 0, 1) := by decide +kernel
theorem dX9_against_15 : decode cX9_against 15 = .ok (.getfield 7, 3) := by decide +kernel
theorem dX9_against_18 : decode cX9_against 18 = .ok (.iload_n 1, 1) := by decide +kernel
theorem dX9_against_19 : decode cX9_against 19 = .ok (.iaload, 1) := by decide +kernel
theorem dX9_against_20 : decode cX9_against 20 = .ok (.ifCond .ge 8, 3) := by decide +kernel
theorem dX9_against_23 : decode cX9_against 23 = .ok (.bipush (-11), 2) := by decide +kernel
theorem dX9_against_25 : decode cX9_against 25 = .ok (.goto 5, 3) := by decide +kernel
theorem dX9_against_28 : decode cX9_against 28 = .ok (.bipush (-12), 2) := by decide +kernel
theorem dX9_against_30 : decode cX9_against 30 = .ok (.ireturn, 1) := by decide +kernel
theorem dX9_item_0 : decode cX9_item 0 = .ok (.iload_n 1, 1) := by decide +kernel
theorem dX9_item_1 : decode cX9_item 1 = .ok (.iload_n 2, 1) := by decide +kernel
theorem dX9_item_2 : decode cX9_item 2 = .ok (.invokestatic 95, 3) := by decide +kernel
theorem dX9_item_5 : decode cX9_item 5 = .ok (.ifCond .ne 5, 3) := by decide +kernel
theorem dX9_item_8 : decode cX9_item 8 = .ok (.iconst (-1), 1) := by decide +kernel
theorem dX9_item_9 : decode cX9_item 9 = .ok (.ireturn, 1) := by decide +kernel
theorem dX9_item_10 : decode cX9_item 10 = .ok (.aload_n 0, 1) := by decide +kernel
theorem dX9_item_11 : decode cX9_item 11 = .ok (.iload_n 1, 1) := by decide +kernel
theorem dX9_item_12 : decode cX9_item 12 = .ok (.iload_n 2, 1) := by decide +kernel
theorem dX9_item_13 : decode cX9_item 13 = .ok (.invokevirtual 99, 3) := by decide +kernel
theorem dX9_item_16 : decode cX9_item 16 = .ok (.istore 5, 2) := by decide +kernel
theorem dX9_item_18 : decode cX9_item 18 = .ok (.iload 5, 2) := by decide +kernel
theorem dX9_item_20 : decode cX9_item 20 = .ok (.ifCond .ge 6, 3) := by decide +kernel
theorem dX9_item_23 : decode cX9_item 23 = .ok (.iload 5, 2) := by decide +kernel
theorem dX9_item_25 : decode cX9_item 25 = .ok (.ireturn, 1) := by decide +kernel
theorem dX9_item_26 : decode cX9_item 26 = .ok (.iload_n 3, 1) := by decide +kernel
theorem dX9_item_27 : decode cX9_item 27 = .ok (.i2l, 1) := by decide +kernel
theorem dX9_item_28 : decode cX9_item 28 = .ok (.lconst 0, 1) := by decide +kernel
theorem dX9_item_29 : decode cX9_item 29 = .ok (.aload_n 0, 1) := by decide +kernel
theorem dX9_item_30 : decode cX9_item 30 = .ok (.getfield 13, 3) := by decide +kernel
theorem dX9_item_33 : decode cX9_item 33 = .ok (.iload_n 1, 1) := by decide +kernel
theorem dX9_item_34 : decode cX9_item 34 = .ok (.iaload, 1) := by decide +kernel
theorem dX9_item_35 : decode cX9_item 35 = .ok (.iconst 1, 1) := by decide +kernel
theorem dX9_item_36 : decode cX9_item 36 = .ok (.isub, 1) := by decide +kernel
theorem dX9_item_37 : decode cX9_item 37 = .ok (.i2l, 1) := by decide +kernel
theorem dX9_item_38 : decode cX9_item 38 = .ok (.invokestatic 89, 3) := by decide +kernel
theorem dX9_item_41 : decode cX9_item 41 = .ok (.ifCond .ne 6, 3) := by decide +kernel
theorem dX9_item_44 : decode cX9_item 44 = .ok (.bipush (-13), 2) := by decide +kernel
theorem dX9_item_46 : decode cX9_item 46 = .ok (.ireturn, 1) := by decide +kernel
theorem dX9_item_47 : decode cX9_item 47 = .ok (.aload_n 0, 1) := by decide +kernel
theorem dX9_item_48 : decode cX9_item 48 = .ok (.getfield 16, 3) := by decide +kernel
theorem dX9_item_51 : decode cX9_item 51 = .ok (.bipush 40, 2) := by decide +kernel
theorem dX9_item_53 : decode cX9_item 53 = .ok (.iload_n 1, 1) := by decide +kernel
theorem dX9_item_54 : decode cX9_item 54 = .ok (.imul, 1) := by decide +kernel
theorem dX9_item_55 : decode cX9_item 55 = .ok (.iload_n 3, 1) := by decide +kernel
theorem dX9_item_56 : decode cX9_item 56 = .ok (.iadd, 1) := by decide +kernel
theorem dX9_item_57 : decode cX9_item 57 = .ok (.iload_n 2, 1) := by decide +kernel
theorem dX9_item_58 : decode cX9_item 58 = .ok (.ifCond .ne 14, 3) := by decide +kernel
theorem dX9_item_61 : decode cX9_item 61 = .ok (.iload 4, 2) := by decide +kernel
theorem dX9_item_63 : decode cX9_item 63 = .ok (.bipush 24, 2) := by decide +kernel
theorem dX9_item_65 : decode cX9_item 65 = .ok (.ishl, 1) := by decide +kernel
theorem dX9_item_66 : decode cX9_item 66 = .ok (.bipush 24, 2) := by decide +kernel
theorem dX9_item_68 : decode cX9_item 68 = .ok (.ishr, 1) := by decide +kernel
theorem dX9_item_69 : decode cX9_item 69 = .ok (.goto 21, 3) := by decide +kernel
theorem dX9_item_72 : decode cX9_item 72 = .ok (.iload_n 2, 1) := by decide +kernel
theorem dX9_item_73 : decode cX9_item 73 = .ok (.iconst 1, 1) := by decide +kernel
theorem dX9_item_74 : decode cX9_item 74 = .ok (.if_icmp .ne 14, 3) := by decide +kernel
theorem dX9_item_77 : decode cX9_item 77 = .ok (.iload 4, 2) := by decide +kernel
theorem dX9_item_79 : decode cX9_item 79 = .ok (.bipush 16, 2) := by decide +kernel
theorem dX9_item_81 : decode cX9_item 81 = .ok (.ishl, 1) := by decide +kernel
theorem dX9_item_82 : decode cX9_item 82 = .ok (.bipush 16, 2) := by decide +kernel
theorem dX9_item_84 : decode cX9_item 84 = .ok (.ishr, 1) := by decide +kernel
theorem dX9_item_85 : decode cX9_item 85 = .ok (.goto 5, 3) := by decide +kernel
theorem dX9_item_88 : decode cX9_item 88 = .ok (.iload 4, 2) := by decide +kernel
theorem dX9_item_90 : decode cX9_item 90 = .ok (.iastore, 1) := by decide +kernel
theorem dX9_item_91 : decode cX9_item 91 = .ok (.iconst 1, 1) := by decide +kernel
theorem dX9_item_92 : decode cX9_item 92 = .ok (.ireturn, 1) := by decide +kernel
theorem dX9_isSpan_0 : decode cX9_isSpan 0 = .ok (.iload_n 0, 1) := by decide +kernel
theorem dX9_isSpan_1 : decode cX9_isSpan 1 = .ok (.ifCond .lt 22, 3) := by decide +kernel
theorem dX9_isSpan_4 : decode cX9_isSpan 4 = .ok (.iload_n 1, 1) := by decide +kernel
theorem dX9_isSpan_5 : decode cX9_isSpan 5 = .ok (.ifCond .lt 18, 3) := by decide +kernel
theorem dX9_isSpan_8 : decode cX9_isSpan 8 = .ok (.iload_n 0, 1) := by decide +kernel
theorem dX9_isSpan_9 : decode cX9_isSpan 9 = .ok (.i2l, 1) := by decide +kernel
theorem dX9_isSpan_10 : decode cX9_isSpan 10 = .ok (.iload_n 1, 1) := by decide +kernel
theorem dX9_isSpan_11 : decode cX9_isSpan 11 = .ok (.i2l, 1) := by decide +kernel
theorem dX9_isSpan_12 : decode cX9_isSpan 12 = .ok (.ladd, 1) := by decide +kernel
theorem dX9_isSpan_13 : decode cX9_isSpan 13 = .ok (.iload_n 2, 1) := by decide +kernel
theorem dX9_isSpan_14 : decode cX9_isSpan 14 = .ok (.i2l, 1) := by decide +kernel
theorem dX9_isSpan_15 : decode cX9_isSpan 15 = .ok (.lcmp, 1) := by decide +kernel
theorem dX9_isSpan_16 : decode cX9_isSpan 16 = .ok (.ifCond .gt 7, 3) := by decide +kernel
theorem dX9_isSpan_19 : decode cX9_isSpan 19 = .ok (.iconst 1, 1) := by decide +kernel
theorem dX9_isSpan_20 : decode cX9_isSpan 20 = .ok (.goto 4, 3) := by decide +kernel
theorem dX9_isSpan_23 : decode cX9_isSpan 23 = .ok (.iconst 0, 1) := by decide +kernel
theorem dX9_isSpan_24 : decode cX9_isSpan 24 = .ok (.ireturn, 1) := by decide +kernel
theorem dX9_copy_0 : decode cX9_copy 0 = .ok (.iload_n 1, 1) := by decide +kernel
theorem dX9_copy_1 : decode cX9_copy 1 = .ok (.i2l, 1) := by decide +kernel
theorem dX9_copy_2 : decode cX9_copy 2 = .ok (.lconst 0, 1) := by decide +kernel
theorem dX9_copy_3 : decode cX9_copy 3 = .ok (.ldc2_w 87, 3) := by decide +kernel
theorem dX9_copy_6 : decode cX9_copy 6 = .ok (.invokestatic 89, 3) := by decide +kernel
theorem dX9_copy_9 : decode cX9_copy 9 = .ok (.ifCond .eq 15, 3) := by decide +kernel
theorem dX9_copy_12 : decode cX9_copy 12 = .ok (.iload_n 3, 1) := by decide +kernel
theorem dX9_copy_13 : decode cX9_copy 13 = .ok (.i2l, 1) := by decide +kernel
theorem dX9_copy_14 : decode cX9_copy 14 = .ok (.lconst 0, 1) := by decide +kernel
theorem dX9_copy_15 : decode cX9_copy 15 = .ok (.ldc2_w 87, 3) := by decide +kernel
theorem dX9_copy_18 : decode cX9_copy 18 = .ok (.invokestatic 89, 3) := by decide +kernel
theorem dX9_copy_21 : decode cX9_copy 21 = .ok (.ifCond .ne 5, 3) := by decide +kernel
theorem dX9_copy_24 : decode cX9_copy 24 = .ok (.iconst (-1), 1) := by decide +kernel
theorem dX9_copy_25 : decode cX9_copy 25 = .ok (.ireturn, 1) := by decide +kernel
theorem dX9_copy_26 : decode cX9_copy 26 = .ok (.aload_n 0, 1) := by decide +kernel
theorem dX9_copy_27 : decode cX9_copy 27 = .ok (.getfield 7, 3) := by decide +kernel
theorem dX9_copy_30 : decode cX9_copy 30 = .ok (.iload_n 1, 1) := by decide +kernel
theorem dX9_copy_31 : decode cX9_copy 31 = .ok (.iaload, 1) := by decide +kernel
theorem dX9_copy_32 : decode cX9_copy 32 = .ok (.ifCond .lt 12, 3) := by decide +kernel
theorem dX9_copy_35 : decode cX9_copy 35 = .ok (.aload_n 0, 1) := by decide +kernel
theorem dX9_copy_36 : decode cX9_copy 36 = .ok (.getfield 7, 3) := by decide +kernel
theorem dX9_copy_39 : decode cX9_copy 39 = .ok (.iload_n 3, 1) := by decide +kernel
theorem dX9_copy_40 : decode cX9_copy 40 = .ok (.iaload, 1) := by decide +kernel
theorem dX9_copy_41 : decode cX9_copy 41 = .ok (.ifCond .ge 6, 3) := by decide +kernel
theorem dX9_copy_44 : decode cX9_copy 44 = .ok (.bipush (-11), 2) := by decide +kernel
theorem dX9_copy_46 : decode cX9_copy 46 = .ok (.ireturn, 1) := by decide +kernel
theorem dX9_copy_47 : decode cX9_copy 47 = .ok (.aload_n 0, 1) := by decide +kernel
theorem dX9_copy_48 : decode cX9_copy 48 = .ok (.getfield 7, 3) := by decide +kernel
theorem dX9_copy_51 : decode cX9_copy 51 = .ok (.iload_n 1, 1) := by decide +kernel
theorem dX9_copy_52 : decode cX9_copy 52 = .ok (.iaload, 1) := by decide +kernel
theorem dX9_copy_53 : decode cX9_copy 53 = .ok (.aload_n 0, 1) := by decide +kernel
theorem dX9_copy_54 : decode cX9_copy 54 = .ok (.getfield 7, 3) := by decide +kernel
theorem dX9_copy_57 : decode cX9_copy 57 = .ok (.iload_n 3, 1) := by decide +kernel
theorem dX9_copy_58 : decode cX9_copy 58 = .ok (.iaload, 1) := by decide +kernel
theorem dX9_copy_59 : decode cX9_copy 59 = .ok (.if_icmp .eq 6, 3) := by decide +kernel
theorem dX9_copy_62 : decode cX9_copy 62 = .ok (.bipush (-12), 2) := by decide +kernel
theorem dX9_copy_64 : decode cX9_copy 64 = .ok (.ireturn, 1) := by decide +kernel
theorem dX9_copy_65 : decode cX9_copy 65 = .ok (.iload_n 2, 1) := by decide +kernel
theorem dX9_copy_66 : decode cX9_copy 66 = .ok (.iload 5, 2) := by decide +kernel
theorem dX9_copy_68 : decode cX9_copy 68 = .ok (.aload_n 0, 1) := by decide +kernel
theorem dX9_copy_69 : decode cX9_copy 69 = .ok (.getfield 13, 3) := by decide +kernel
theorem dX9_copy_72 : decode cX9_copy 72 = .ok (.iload_n 1, 1) := by decide +kernel
theorem dX9_copy_73 : decode cX9_copy 73 = .ok (.iaload, 1) := by decide +kernel
theorem dX9_copy_74 : decode cX9_copy 74 = .ok (.invokestatic 103, 3) := by decide +kernel
theorem dX9_copy_77 : decode cX9_copy 77 = .ok (.ifCond .eq 19, 3) := by decide +kernel
theorem dX9_copy_80 : decode cX9_copy 80 = .ok (.iload 4, 2) := by decide +kernel
theorem dX9_copy_82 : decode cX9_copy 82 = .ok (.iload 5, 2) := by decide +kernel
theorem dX9_copy_84 : decode cX9_copy 84 = .ok (.aload_n 0, 1) := by decide +kernel
theorem dX9_copy_85 : decode cX9_copy 85 = .ok (.getfield 13, 3) := by decide +kernel
theorem dX9_copy_88 : decode cX9_copy 88 = .ok (.iload_n 3, 1) := by decide +kernel
theorem dX9_copy_89 : decode cX9_copy 89 = .ok (.iaload, 1) := by decide +kernel
theorem dX9_copy_90 : decode cX9_copy 90 = .ok (.invokestatic 103, 3) := by decide +kernel
theorem dX9_copy_93 : decode cX9_copy 93 = .ok (.ifCond .ne 6, 3) := by decide +kernel
theorem dX9_copy_96 : decode cX9_copy 96 = .ok (.bipush (-13), 2) := by decide +kernel
theorem dX9_copy_98 : decode cX9_copy 98 = .ok (.ireturn, 1) := by decide +kernel
theorem dX9_copy_99 : decode cX9_copy 99 = .ok (.iconst 0, 1) := by decide +kernel
theorem dX9_copy_100 : decode cX9_copy 100 = .ok (.istore 6, 2) := by decide +kernel
theorem dX9_copy_102 : decode cX9_copy 102 = .ok (.iload 6, 2) := by decide +kernel
theorem dX9_copy_104 : decode cX9_copy 104 = .ok (.iload 5, 2) := by decide +kernel
theorem dX9_copy_106 : decode cX9_copy 106 = .ok (.if_icmp .ge 30, 3) := by decide +kernel
theorem dX9_copy_109 : decode cX9_copy 109 = .ok (.aload_n 0, 1) := by decide +kernel
theorem dX9_copy_110 : decode cX9_copy 110 = .ok (.getfield 19, 3) := by decide +kernel
theorem dX9_copy_113 : decode cX9_copy 113 = .ok (.iload 6, 2) := by decide +kernel
theorem dX9_copy_115 : decode cX9_copy 115 = .ok (.aload_n 0, 1) := by decide +kernel
theorem dX9_copy_116 : decode cX9_copy 116 = .ok (.getfield 16, 3) := by decide +kernel
theorem dX9_copy_119 : decode cX9_copy 119 = .ok (.bipush 40, 2) := by decide +kernel
theorem dX9_copy_121 : decode cX9_copy 121 = .ok (.iload_n 1, 1) := by decide +kernel
theorem dX9_copy_122 : decode cX9_copy 122 = .ok (.imul, 1) := by decide +kernel
theorem dX9_copy_123 : decode cX9_copy 123 = .ok (.iload_n 2, 1) := by decide +kernel
theorem dX9_copy_124 : decode cX9_copy 124 = .ok (.iadd, 1) := by decide +kernel
theorem dX9_copy_125 : decode cX9_copy 125 = .ok (.iload 6, 2) := by decide +kernel
theorem dX9_copy_127 : decode cX9_copy 127 = .ok (.iadd, 1) := by decide +kernel
theorem dX9_copy_128 : decode cX9_copy 128 = .ok (.iaload, 1) := by decide +kernel
theorem dX9_copy_129 : decode cX9_copy 129 = .ok (.iastore, 1) := by decide +kernel
theorem dX9_copy_130 : decode cX9_copy 130 = .ok (.iinc 6 1, 3) := by decide +kernel
theorem dX9_copy_133 : decode cX9_copy 133 = .ok (.goto (-31), 3) := by decide +kernel
theorem dX9_copy_136 : decode cX9_copy 136 = .ok (.iconst 0, 1) := by decide +kernel
theorem dX9_copy_137 : decode cX9_copy 137 = .ok (.istore 6, 2) := by decide +kernel
theorem dX9_copy_139 : decode cX9_copy 139 = .ok (.iload 6, 2) := by decide +kernel
theorem dX9_copy_141 : decode cX9_copy 141 = .ok (.iload 5, 2) := by decide +kernel
theorem dX9_copy_143 : decode cX9_copy 143 = .ok (.if_icmp .ge 31, 3) := by decide +kernel
theorem dX9_copy_146 : decode cX9_copy 146 = .ok (.aload_n 0, 1) := by decide +kernel
theorem dX9_copy_147 : decode cX9_copy 147 = .ok (.getfield 16, 3) := by decide +kernel
theorem dX9_copy_150 : decode cX9_copy 150 = .ok (.bipush 40, 2) := by decide +kernel
theorem dX9_copy_152 : decode cX9_copy 152 = .ok (.iload_n 3, 1) := by decide +kernel
theorem dX9_copy_153 : decode cX9_copy 153 = .ok (.imul, 1) := by decide +kernel
theorem dX9_copy_154 : decode cX9_copy 154 = .ok (.iload 4, 2) := by decide +kernel
theorem dX9_copy_156 : decode cX9_copy 156 = .ok (.iadd, 1) := by decide +kernel
theorem dX9_copy_157 : decode cX9_copy 157 = .ok (.iload 6, 2) := by decide +kernel
theorem dX9_copy_159 : decode cX9_copy 159 = .ok (.iadd, 1) := by decide +kernel
theorem dX9_copy_160 : decode cX9_copy 160 = .ok (.aload_n 0, 1) := by decide +kernel
theorem dX9_copy_161 : decode cX9_copy 161 = .ok (.getfield 19, 3) := by decide +kernel
theorem dX9_copy_164 : decode cX9_copy 164 = .ok (.iload 6, 2) := by decide +kernel
theorem dX9_copy_166 : decode cX9_copy 166 = .ok (.iaload, 1) := by decide +kernel
theorem dX9_copy_167 : decode cX9_copy 167 = .ok (.iastore, 1) := by decide +kernel
theorem dX9_copy_168 : decode cX9_copy 168 = .ok (.iinc 6 1, 3) := by decide +kernel
theorem dX9_copy_171 : decode cX9_copy 171 = .ok (.goto (-32), 3) := by decide +kernel
theorem dX9_copy_174 : decode cX9_copy 174 = .ok (.iload 5, 2) := by decide +kernel
theorem dX9_copy_176 : decode cX9_copy 176 = .ok (.ireturn, 1) := by decide +kernel
theorem dX9_isYear_0 : decode cX9_isYear 0 = .ok (.iload_n 0, 1) := by decide +kernel
theorem dX9_isYear_1 : decode cX9_isYear 1 = .ok (.i2l, 1) := by decide +kernel
theorem dX9_isYear_2 : decode cX9_isYear 2 = .ok (.lconst 0, 1) := by decide +kernel
theorem dX9_isYear_3 : decode cX9_isYear 3 = .ok (.lconst 1, 1) := by decide +kernel
theorem dX9_isYear_4 : decode cX9_isYear 4 = .ok (.invokestatic 89, 3) := by decide +kernel
theorem dX9_isYear_7 : decode cX9_isYear 7 = .ok (.ireturn, 1) := by decide +kernel
theorem dX9_tileOf_0 : decode cX9_tileOf 0 = .ok (.iload_n 0, 1) := by decide +kernel
theorem dX9_tileOf_1 : decode cX9_tileOf 1 = .ok (.bipush 16, 2) := by decide +kernel
theorem dX9_tileOf_3 : decode cX9_tileOf 3 = .ok (.idiv, 1) := by decide +kernel
theorem dX9_tileOf_4 : decode cX9_tileOf 4 = .ok (.iconst 4, 1) := by decide +kernel
theorem dX9_tileOf_5 : decode cX9_tileOf 5 = .ok (.iload_n 1, 1) := by decide +kernel
theorem dX9_tileOf_6 : decode cX9_tileOf 6 = .ok (.bipush 16, 2) := by decide +kernel
theorem dX9_tileOf_8 : decode cX9_tileOf 8 = .ok (.idiv, 1) := by decide +kernel
theorem dX9_tileOf_9 : decode cX9_tileOf 9 = .ok (.imul, 1) := by decide +kernel
theorem dX9_tileOf_10 : decode cX9_tileOf 10 = .ok (.iadd, 1) := by decide +kernel
theorem dX9_tileOf_11 : decode cX9_tileOf 11 = .ok (.ireturn, 1) := by decide +kernel
theorem dX9_isPoint_0 : decode cX9_isPoint 0 = .ok (.iload_n 2, 1) := by decide +kernel
theorem dX9_isPoint_1 : decode cX9_isPoint 1 = .ok (.i2l, 1) := by decide +kernel
theorem dX9_isPoint_2 : decode cX9_isPoint 2 = .ok (.lconst 0, 1) := by decide +kernel
theorem dX9_isPoint_3 : decode cX9_isPoint 3 = .ok (.ldc2_w 107, 3) := by decide +kernel
theorem dX9_isPoint_6 : decode cX9_isPoint 6 = .ok (.invokestatic 89, 3) := by decide +kernel
theorem dX9_isPoint_9 : decode cX9_isPoint 9 = .ok (.ifCond .eq 65, 3) := by decide +kernel
theorem dX9_isPoint_12 : decode cX9_isPoint 12 = .ok (.iload_n 3, 1) := by decide +kernel
theorem dX9_isPoint_13 : decode cX9_isPoint 13 = .ok (.i2l, 1) := by decide +kernel
theorem dX9_isPoint_14 : decode cX9_isPoint 14 = .ok (.lconst 0, 1) := by decide +kernel
theorem dX9_isPoint_15 : decode cX9_isPoint 15 = .ok (.ldc2_w 107, 3) := by decide +kernel
theorem dX9_isPoint_18 : decode cX9_isPoint 18 = .ok (.invokestatic 89, 3) := by decide +kernel
theorem dX9_isPoint_21 : decode cX9_isPoint 21 = .ok (.ifCond .eq 53, 3) := by decide +kernel
theorem dX9_isPoint_24 : decode cX9_isPoint 24 = .ok (.iload 4, 2) := by decide +kernel
theorem dX9_isPoint_26 : decode cX9_isPoint 26 = .ok (.i2l, 1) := by decide +kernel
theorem dX9_isPoint_27 : decode cX9_isPoint 27 = .ok (.ldc2_w 109, 3) := by decide +kernel
theorem dX9_isPoint_30 : decode cX9_isPoint 30 = .ok (.ldc2_w 111, 3) := by decide +kernel
theorem dX9_isPoint_33 : decode cX9_isPoint 33 = .ok (.invokestatic 89, 3) := by decide +kernel
theorem dX9_isPoint_36 : decode cX9_isPoint 36 = .ok (.ifCond .eq 38, 3) := by decide +kernel
theorem dX9_isPoint_39 : decode cX9_isPoint 39 = .ok (.iload 5, 2) := by decide +kernel
theorem dX9_isPoint_41 : decode cX9_isPoint 41 = .ok (.i2l, 1) := by decide +kernel
theorem dX9_isPoint_42 : decode cX9_isPoint 42 = .ok (.lconst 0, 1) := by decide +kernel
theorem dX9_isPoint_43 : decode cX9_isPoint 43 = .ok (.ldc2_w 87, 3) := by decide +kernel
theorem dX9_isPoint_46 : decode cX9_isPoint 46 = .ok (.invokestatic 89, 3) := by decide +kernel
theorem dX9_isPoint_49 : decode cX9_isPoint 49 = .ok (.ifCond .eq 25, 3) := by decide +kernel
theorem dX9_isPoint_52 : decode cX9_isPoint 52 = .ok (.aload_n 0, 1) := by decide +kernel
theorem dX9_isPoint_53 : decode cX9_isPoint 53 = .ok (.getfield 46, 3) := by decide +kernel
theorem dX9_isPoint_56 : decode cX9_isPoint 56 = .ok (.bipush 16, 2) := by decide +kernel
theorem dX9_isPoint_58 : decode cX9_isPoint 58 = .ok (.iload_n 1, 1) := by decide +kernel
theorem dX9_isPoint_59 : decode cX9_isPoint 59 = .ok (.imul, 1) := by decide +kernel
theorem dX9_isPoint_60 : decode cX9_isPoint 60 = .ok (.iload_n 2, 1) := by decide +kernel
theorem dX9_isPoint_61 : decode cX9_isPoint 61 = .ok (.iload_n 3, 1) := by decide +kernel
theorem dX9_isPoint_62 : decode cX9_isPoint 62 = .ok (.invokestatic 113, 3) := by decide +kernel
theorem dX9_isPoint_65 : decode cX9_isPoint 65 = .ok (.iadd, 1) := by decide +kernel
theorem dX9_isPoint_66 : decode cX9_isPoint 66 = .ok (.baload, 1) := by decide +kernel
theorem dX9_isPoint_67 : decode cX9_isPoint 67 = .ok (.ifCond .ne 7, 3) := by decide +kernel
theorem dX9_isPoint_70 : decode cX9_isPoint 70 = .ok (.iconst 1, 1) := by decide +kernel
theorem dX9_isPoint_71 : decode cX9_isPoint 71 = .ok (.goto 4, 3) := by decide +kernel
theorem dX9_isPoint_74 : decode cX9_isPoint 74 = .ok (.iconst 0, 1) := by decide +kernel
theorem dX9_isPoint_75 : decode cX9_isPoint 75 = .ok (.ireturn, 1) := by decide +kernel
theorem dX9_points_0 : decode cX9_points 0 = .ok (.iload_n 1, 1) := by decide +kernel
theorem dX9_points_1 : decode cX9_points 1 = .ok (.invokestatic 116, 3) := by decide +kernel
theorem dX9_points_4 : decode cX9_points 4 = .ok (.ifCond .eq 24, 3) := by decide +kernel
theorem dX9_points_7 : decode cX9_points 7 = .ok (.iload_n 2, 1) := by decide +kernel
theorem dX9_points_8 : decode cX9_points 8 = .ok (.iload_n 3, 1) := by decide +kernel
theorem dX9_points_9 : decode cX9_points 9 = .ok (.invokestatic 95, 3) := by decide +kernel
theorem dX9_points_12 : decode cX9_points 12 = .ok (.ifCond .eq 16, 3) := by decide +kernel
theorem dX9_points_15 : decode cX9_points 15 = .ok (.iload 5, 2) := by decide +kernel
theorem dX9_points_17 : decode cX9_points 17 = .ok (.i2l, 1) := by decide +kernel
theorem dX9_points_18 : decode cX9_points 18 = .ok (.lconst 1, 1) := by decide +kernel
theorem dX9_points_19 : decode cX9_points 19 = .ok (.ldc2_w 120, 3) := by decide +kernel
theorem dX9_points_22 : decode cX9_points 22 = .ok (.invokestatic 89, 3) := by decide +kernel
theorem dX9_points_25 : decode cX9_points 25 = .ok (.ifCond .ne 5, 3) := by decide +kernel
theorem dX9_points_28 : decode cX9_points 28 = .ok (.iconst (-1), 1) := by decide +kernel
theorem dX9_points_29 : decode cX9_points 29 = .ok (.ireturn, 1) := by decide +kernel
theorem dX9_points_30 : decode cX9_points 30 = .ok (.aload_n 0, 1) := by decide +kernel
theorem dX9_points_31 : decode cX9_points 31 = .ok (.iload_n 2, 1) := by decide +kernel
theorem dX9_points_32 : decode cX9_points 32 = .ok (.iload_n 3, 1) := by decide +kernel
theorem dX9_points_33 : decode cX9_points 33 = .ok (.invokevirtual 99, 3) := by decide +kernel
theorem dX9_points_36 : decode cX9_points 36 = .ok (.istore 6, 2) := by decide +kernel
theorem dX9_points_38 : decode cX9_points 38 = .ok (.iload 6, 2) := by decide +kernel
theorem dX9_points_40 : decode cX9_points 40 = .ok (.ifCond .ge 6, 3) := by decide +kernel
theorem dX9_points_43 : decode cX9_points 43 = .ok (.iload 6, 2) := by decide +kernel
theorem dX9_points_45 : decode cX9_points 45 = .ok (.ireturn, 1) := by decide +kernel
theorem dX9_points_46 : decode cX9_points 46 = .ok (.iload 4, 2) := by decide +kernel
theorem dX9_points_48 : decode cX9_points 48 = .ok (.iconst 4, 1) := by decide +kernel
theorem dX9_points_49 : decode cX9_points 49 = .ok (.iload 5, 2) := by decide +kernel
theorem dX9_points_51 : decode cX9_points 51 = .ok (.imul, 1) := by decide +kernel
theorem dX9_points_52 : decode cX9_points 52 = .ok (.aload_n 0, 1) := by decide +kernel
theorem dX9_points_53 : decode cX9_points 53 = .ok (.getfield 13, 3) := by decide +kernel
theorem dX9_points_56 : decode cX9_points 56 = .ok (.iload_n 2, 1) := by decide +kernel
theorem dX9_points_57 : decode cX9_points 57 = .ok (.iaload, 1) := by decide +kernel
theorem dX9_points_58 : decode cX9_points 58 = .ok (.invokestatic 103, 3) := by decide +kernel
theorem dX9_points_61 : decode cX9_points 61 = .ok (.ifCond .ne 6, 3) := by decide +kernel
theorem dX9_points_64 : decode cX9_points 64 = .ok (.bipush (-13), 2) := by decide +kernel
theorem dX9_points_66 : decode cX9_points 66 = .ok (.ireturn, 1) := by decide +kernel
theorem dX9_points_67 : decode cX9_points 67 = .ok (.bipush 40, 2) := by decide +kernel
theorem dX9_points_69 : decode cX9_points 69 = .ok (.iload_n 2, 1) := by decide +kernel
theorem dX9_points_70 : decode cX9_points 70 = .ok (.imul, 1) := by decide +kernel
theorem dX9_points_71 : decode cX9_points 71 = .ok (.iload 4, 2) := by decide +kernel
theorem dX9_points_73 : decode cX9_points 73 = .ok (.iadd, 1) := by decide +kernel
theorem dX9_points_74 : decode cX9_points 74 = .ok (.istore 7, 2) := by decide +kernel
theorem dX9_points_76 : decode cX9_points 76 = .ok (.iconst 0, 1) := by decide +kernel
theorem dX9_points_77 : decode cX9_points 77 = .ok (.istore 8, 2) := by decide +kernel
theorem dX9_points_79 : decode cX9_points 79 = .ok (.iload 8, 2) := by decide +kernel
theorem dX9_points_81 : decode cX9_points 81 = .ok (.iload 5, 2) := by decide +kernel
theorem dX9_points_83 : decode cX9_points 83 = .ok (.if_icmp .ge 74, 3) := by decide +kernel
theorem dX9_points_86 : decode cX9_points 86 = .ok (.aload_n 0, 1) := by decide +kernel
theorem dX9_points_87 : decode cX9_points 87 = .ok (.iload_n 1, 1) := by decide +kernel
theorem dX9_points_88 : decode cX9_points 88 = .ok (.aload_n 0, 1) := by decide +kernel
theorem dX9_points_89 : decode cX9_points 89 = .ok (.getfield 16, 3) := by decide +kernel
theorem dX9_points_92 : decode cX9_points 92 = .ok (.iload 7, 2) := by decide +kernel
theorem dX9_points_94 : decode cX9_points 94 = .ok (.iconst 4, 1) := by decide +kernel
theorem dX9_points_95 : decode cX9_points 95 = .ok (.iload 8, 2) := by decide +kernel
theorem dX9_points_97 : decode cX9_points 97 = .ok (.imul, 1) := by decide +kernel
theorem dX9_points_98 : decode cX9_points 98 = .ok (.iadd, 1) := by decide +kernel
theorem dX9_points_99 : decode cX9_points 99 = .ok (.iaload, 1) := by decide +kernel
theorem dX9_points_100 : decode cX9_points 100 = .ok (.aload_n 0, 1) := by decide +kernel
theorem dX9_points_101 : decode cX9_points 101 = .ok (.getfield 16, 3) := by decide +kernel
theorem dX9_points_104 : decode cX9_points 104 = .ok (.iload 7, 2) := by decide +kernel
theorem dX9_points_106 : decode cX9_points 106 = .ok (.iconst 4, 1) := by decide +kernel
theorem dX9_points_107 : decode cX9_points 107 = .ok (.iload 8, 2) := by decide +kernel
theorem dX9_points_109 : decode cX9_points 109 = .ok (.imul, 1) := by decide +kernel
theorem dX9_points_110 : decode cX9_points 110 = .ok (.iadd, 1) := by decide +kernel
theorem dX9_points_111 : decode cX9_points 111 = .ok (.iconst 1, 1) := by decide +kernel
theorem dX9_points_112 : decode cX9_points 112 = .ok (.iadd, 1) := by decide +kernel
theorem dX9_points_113 : decode cX9_points 113 = .ok (.iaload, 1) := by decide +kernel
theorem dX9_points_114 : decode cX9_points 114 = .ok (.aload_n 0, 1) := by decide +kernel
theorem dX9_points_115 : decode cX9_points 115 = .ok (.getfield 16, 3) := by decide +kernel
theorem dX9_points_118 : decode cX9_points 118 = .ok (.iload 7, 2) := by decide +kernel
theorem dX9_points_120 : decode cX9_points 120 = .ok (.iconst 4, 1) := by decide +kernel
theorem dX9_points_121 : decode cX9_points 121 = .ok (.iload 8, 2) := by decide +kernel
theorem dX9_points_123 : decode cX9_points 123 = .ok (.imul, 1) := by decide +kernel
theorem dX9_points_124 : decode cX9_points 124 = .ok (.iadd, 1) := by decide +kernel
theorem dX9_points_125 : decode cX9_points 125 = .ok (.iconst 2, 1) := by decide +kernel
theorem dX9_points_126 : decode cX9_points 126 = .ok (.iadd, 1) := by decide +kernel
theorem dX9_points_127 : decode cX9_points 127 = .ok (.iaload, 1) := by decide +kernel
theorem dX9_points_128 : decode cX9_points 128 = .ok (.aload_n 0, 1) := by decide +kernel
theorem dX9_points_129 : decode cX9_points 129 = .ok (.getfield 16, 3) := by decide +kernel
theorem dX9_points_132 : decode cX9_points 132 = .ok (.iload 7, 2) := by decide +kernel
theorem dX9_points_134 : decode cX9_points 134 = .ok (.iconst 4, 1) := by decide +kernel
theorem dX9_points_135 : decode cX9_points 135 = .ok (.iload 8, 2) := by decide +kernel
theorem dX9_points_137 : decode cX9_points 137 = .ok (.imul, 1) := by decide +kernel
theorem dX9_points_138 : decode cX9_points 138 = .ok (.iadd, 1) := by decide +kernel
theorem dX9_points_139 : decode cX9_points 139 = .ok (.iconst 3, 1) := by decide +kernel
theorem dX9_points_140 : decode cX9_points 140 = .ok (.iadd, 1) := by decide +kernel
theorem dX9_points_141 : decode cX9_points 141 = .ok (.iaload, 1) := by decide +kernel
theorem dX9_points_142 : decode cX9_points 142 = .ok (.invokevirtual 122, 3) := by decide +kernel
theorem dX9_points_145 : decode cX9_points 145 = .ok (.ifCond .ne 6, 3) := by decide +kernel
theorem dX9_points_148 : decode cX9_points 148 = .ok (.bipush (-2), 2) := by decide +kernel
theorem dX9_points_150 : decode cX9_points 150 = .ok (.ireturn, 1) := by decide +kernel
theorem dX9_points_151 : decode cX9_points 151 = .ok (.iinc 8 1, 3) := by decide +kernel
theorem dX9_points_154 : decode cX9_points 154 = .ok (.goto (-75), 3) := by decide +kernel
theorem dX9_points_157 : decode cX9_points 157 = .ok (.aload_n 0, 1) := by decide +kernel
theorem dX9_points_158 : decode cX9_points 158 = .ok (.getfield 22, 3) := by decide +kernel
theorem dX9_points_161 : decode cX9_points 161 = .ok (.iload_n 1, 1) := by decide +kernel
theorem dX9_points_162 : decode cX9_points 162 = .ok (.iaload, 1) := by decide +kernel
theorem dX9_points_163 : decode cX9_points 163 = .ok (.iload 5, 2) := by decide +kernel
theorem dX9_points_165 : decode cX9_points 165 = .ok (.iadd, 1) := by decide +kernel
theorem dX9_points_166 : decode cX9_points 166 = .ok (.bipush 100, 2) := by decide +kernel
theorem dX9_points_168 : decode cX9_points 168 = .ok (.if_icmp .le 6, 3) := by decide +kernel
theorem dX9_points_171 : decode cX9_points 171 = .ok (.bipush (-3), 2) := by decide +kernel
theorem dX9_points_173 : decode cX9_points 173 = .ok (.ireturn, 1) := by decide +kernel
theorem dX9_points_174 : decode cX9_points 174 = .ok (.iconst 0, 1) := by decide +kernel
theorem dX9_points_175 : decode cX9_points 175 = .ok (.istore 8, 2) := by decide +kernel
theorem dX9_points_177 : decode cX9_points 177 = .ok (.iload 8, 2) := by decide +kernel
theorem dX9_points_179 : decode cX9_points 179 = .ok (.iload 5, 2) := by decide +kernel
theorem dX9_points_181 : decode cX9_points 181 = .ok (.if_icmp .ge 138, 3) := by decide +kernel
theorem dX9_points_184 : decode cX9_points 184 = .ok (.bipush 100, 2) := by decide +kernel
theorem dX9_points_186 : decode cX9_points 186 = .ok (.iload_n 1, 1) := by decide +kernel
theorem dX9_points_187 : decode cX9_points 187 = .ok (.imul, 1) := by decide +kernel
theorem dX9_points_188 : decode cX9_points 188 = .ok (.aload_n 0, 1) := by decide +kernel
theorem dX9_points_189 : decode cX9_points 189 = .ok (.getfield 22, 3) := by decide +kernel
theorem dX9_points_192 : decode cX9_points 192 = .ok (.iload_n 1, 1) := by decide +kernel
theorem dX9_points_193 : decode cX9_points 193 = .ok (.iaload, 1) := by decide +kernel
theorem dX9_points_194 : decode cX9_points 194 = .ok (.iadd, 1) := by decide +kernel
theorem dX9_points_195 : decode cX9_points 195 = .ok (.istore 9, 2) := by decide +kernel
theorem dX9_points_197 : decode cX9_points 197 = .ok (.aload_n 0, 1) := by decide +kernel
theorem dX9_points_198 : decode cX9_points 198 = .ok (.getfield 25, 3) := by decide +kernel
theorem dX9_points_201 : decode cX9_points 201 = .ok (.iload 9, 2) := by decide +kernel
theorem dX9_points_203 : decode cX9_points 203 = .ok (.aload_n 0, 1) := by decide +kernel
theorem dX9_points_204 : decode cX9_points 204 = .ok (.getfield 16, 3) := by decide +kernel
theorem dX9_points_207 : decode cX9_points 207 = .ok (.iload 7, 2) := by decide +kernel
theorem dX9_points_209 : decode cX9_points 209 = .ok (.iconst 4, 1) := by decide +kernel
theorem dX9_points_210 : decode cX9_points 210 = .ok (.iload 8, 2) := by decide +kernel
theorem dX9_points_212 : decode cX9_points 212 = .ok (.imul, 1) := by decide +kernel
theorem dX9_points_213 : decode cX9_points 213 = .ok (.iadd, 1) := by decide +kernel
theorem dX9_points_214 : decode cX9_points 214 = .ok (.iaload, 1) := by decide +kernel
theorem dX9_points_215 : decode cX9_points 215 = .ok (.iastore, 1) := by decide +kernel
theorem dX9_points_216 : decode cX9_points 216 = .ok (.aload_n 0, 1) := by decide +kernel
theorem dX9_points_217 : decode cX9_points 217 = .ok (.getfield 28, 3) := by decide +kernel
theorem dX9_points_220 : decode cX9_points 220 = .ok (.iload 9, 2) := by decide +kernel
theorem dX9_points_222 : decode cX9_points 222 = .ok (.aload_n 0, 1) := by decide +kernel
theorem dX9_points_223 : decode cX9_points 223 = .ok (.getfield 16, 3) := by decide +kernel
theorem dX9_points_226 : decode cX9_points 226 = .ok (.iload 7, 2) := by decide +kernel
theorem dX9_points_228 : decode cX9_points 228 = .ok (.iconst 4, 1) := by decide +kernel
theorem dX9_points_229 : decode cX9_points 229 = .ok (.iload 8, 2) := by decide +kernel
theorem dX9_points_231 : decode cX9_points 231 = .ok (.imul, 1) := by decide +kernel
theorem dX9_points_232 : decode cX9_points 232 = .ok (.iadd, 1) := by decide +kernel
theorem dX9_points_233 : decode cX9_points 233 = .ok (.iconst 1, 1) := by decide +kernel
theorem dX9_points_234 : decode cX9_points 234 = .ok (.iadd, 1) := by decide +kernel
theorem dX9_points_235 : decode cX9_points 235 = .ok (.iaload, 1) := by decide +kernel
theorem dX9_points_236 : decode cX9_points 236 = .ok (.iastore, 1) := by decide +kernel
theorem dX9_points_237 : decode cX9_points 237 = .ok (.aload_n 0, 1) := by decide +kernel
theorem dX9_points_238 : decode cX9_points 238 = .ok (.getfield 31, 3) := by decide +kernel
theorem dX9_points_241 : decode cX9_points 241 = .ok (.iload 9, 2) := by decide +kernel
theorem dX9_points_243 : decode cX9_points 243 = .ok (.aload_n 0, 1) := by decide +kernel
theorem dX9_points_244 : decode cX9_points 244 = .ok (.getfield 16, 3) := by decide +kernel
theorem dX9_points_247 : decode cX9_points 247 = .ok (.iload 7, 2) := by decide +kernel
theorem dX9_points_249 : decode cX9_points 249 = .ok (.iconst 4, 1) := by decide +kernel
theorem dX9_points_250 : decode cX9_points 250 = .ok (.iload 8, 2) := by decide +kernel
theorem dX9_points_252 : decode cX9_points 252 = .ok (.imul, 1) := by decide +kernel
theorem dX9_points_253 : decode cX9_points 253 = .ok (.iadd, 1) := by decide +kernel
theorem dX9_points_254 : decode cX9_points 254 = .ok (.iconst 2, 1) := by decide +kernel
theorem dX9_points_255 : decode cX9_points 255 = .ok (.iadd, 1) := by decide +kernel
theorem dX9_points_256 : decode cX9_points 256 = .ok (.iaload, 1) := by decide +kernel
theorem dX9_points_257 : decode cX9_points 257 = .ok (.iastore, 1) := by decide +kernel
theorem dX9_points_258 : decode cX9_points 258 = .ok (.aload_n 0, 1) := by decide +kernel
theorem dX9_points_259 : decode cX9_points 259 = .ok (.getfield 34, 3) := by decide +kernel
theorem dX9_points_262 : decode cX9_points 262 = .ok (.iload 9, 2) := by decide +kernel
theorem dX9_points_264 : decode cX9_points 264 = .ok (.aload_n 0, 1) := by decide +kernel
theorem dX9_points_265 : decode cX9_points 265 = .ok (.getfield 16, 3) := by decide +kernel
theorem dX9_points_268 : decode cX9_points 268 = .ok (.iload 7, 2) := by decide +kernel
theorem dX9_points_270 : decode cX9_points 270 = .ok (.iconst 4, 1) := by decide +kernel
theorem dX9_points_271 : decode cX9_points 271 = .ok (.iload 8, 2) := by decide +kernel
theorem dX9_points_273 : decode cX9_points 273 = .ok (.imul, 1) := by decide +kernel
theorem dX9_points_274 : decode cX9_points 274 = .ok (.iadd, 1) := by decide +kernel
theorem dX9_points_275 : decode cX9_points 275 = .ok (.iconst 3, 1) := by decide +kernel
theorem dX9_points_276 : decode cX9_points 276 = .ok (.iadd, 1) := by decide +kernel
theorem dX9_points_277 : decode cX9_points 277 = .ok (.iaload, 1) := by decide +kernel
theorem dX9_points_278 : decode cX9_points 278 = .ok (.iastore, 1) := by decide +kernel
theorem dX9_points_279 : decode cX9_points 279 = .ok (.aload_n 0, 1) := by decide +kernel
theorem dX9_points_280 : decode cX9_points 280 = .ok (.getfield 37, 3) := by decide +kernel
theorem dX9_points_283 : decode cX9_points 283 = .ok (.iload 9, 2) := by decide +kernel
theorem dX9_points_285 : decode cX9_points 285 = .ok (.iconst 0, 1) := by decide +kernel
theorem dX9_points_286 : decode cX9_points 286 = .ok (.iastore, 1) := by decide +kernel
theorem dX9_points_287 : decode cX9_points 287 = .ok (.aload_n 0, 1) := by decide +kernel
theorem dX9_points_288 : decode cX9_points 288 = .ok (.getfield 40, 3) := by decide +kernel
theorem dX9_points_291 : decode cX9_points 291 = .ok (.iload 9, 2) := by decide +kernel
theorem dX9_points_293 : decode cX9_points 293 = .ok (.iconst 0, 1) := by decide +kernel
theorem dX9_points_294 : decode cX9_points 294 = .ok (.iastore, 1) := by decide +kernel
theorem dX9_points_295 : decode cX9_points 295 = .ok (.aload_n 0, 1) := by decide +kernel
theorem dX9_points_296 : decode cX9_points 296 = .ok (.getfield 43, 3) := by decide +kernel
theorem dX9_points_299 : decode cX9_points 299 = .ok (.iload 9, 2) := by decide +kernel
theorem dX9_points_301 : decode cX9_points 301 = .ok (.iconst (-1), 1) := by decide +kernel
theorem dX9_points_302 : decode cX9_points 302 = .ok (.iastore, 1) := by decide +kernel
theorem dX9_points_303 : decode cX9_points 303 = .ok (.aload_n 0, 1) := by decide +kernel
theorem dX9_points_304 : decode cX9_points 304 = .ok (.getfield 22, 3) := by decide +kernel
theorem dX9_points_307 : decode cX9_points 307 = .ok (.iload_n 1, 1) := by decide +kernel
theorem dX9_points_308 : decode cX9_points 308 = .ok (.dup2, 1) := by decide +kernel
theorem dX9_points_309 : decode cX9_points 309 = .ok (.iaload, 1) := by decide +kernel
theorem dX9_points_310 : decode cX9_points 310 = .ok (.iconst 1, 1) := by decide +kernel
theorem dX9_points_311 : decode cX9_points 311 = .ok (.iadd, 1) := by decide +kernel
theorem dX9_points_312 : decode cX9_points 312 = .ok (.iastore, 1) := by decide +kernel
theorem dX9_points_313 : decode cX9_points 313 = .ok (.iinc 8 1, 3) := by decide +kernel
theorem dX9_points_316 : decode cX9_points 316 = .ok (.goto (-139), 3) := by decide +kernel
theorem dX9_points_319 : decode cX9_points 319 = .ok (.aload_n 0, 1) := by decide +kernel
theorem dX9_points_320 : decode cX9_points 320 = .ok (.getfield 22, 3) := by decide +kernel
theorem dX9_points_323 : decode cX9_points 323 = .ok (.iload_n 1, 1) := by decide +kernel
theorem dX9_points_324 : decode cX9_points 324 = .ok (.iaload, 1) := by decide +kernel
theorem dX9_points_325 : decode cX9_points 325 = .ok (.ireturn, 1) := by decide +kernel
theorem dX9_heightOf_0 : decode cX9_heightOf 0 = .ok (.aload_n 0, 1) := by decide +kernel
theorem dX9_heightOf_1 : decode cX9_heightOf 1 = .ok (.getfield 31, 3) := by decide +kernel
theorem dX9_heightOf_4 : decode cX9_heightOf 4 = .ok (.iload_n 2, 1) := by decide +kernel
theorem dX9_heightOf_5 : decode cX9_heightOf 5 = .ok (.iaload, 1) := by decide +kernel
theorem dX9_heightOf_6 : decode cX9_heightOf 6 = .ok (.aload_n 0, 1) := by decide +kernel
theorem dX9_heightOf_7 : decode cX9_heightOf 7 = .ok (.getfield 50, 3) := by decide +kernel
theorem dX9_heightOf_10 : decode cX9_heightOf 10 = .ok (.iconst 4, 1) := by decide +kernel
theorem dX9_heightOf_11 : decode cX9_heightOf 11 = .ok (.iload_n 1, 1) := by decide +kernel
theorem dX9_heightOf_12 : decode cX9_heightOf 12 = .ok (.imul, 1) := by decide +kernel
theorem dX9_heightOf_13 : decode cX9_heightOf 13 = .ok (.aload_n 0, 1) := by decide +kernel
theorem dX9_heightOf_14 : decode cX9_heightOf 14 = .ok (.getfield 34, 3) := by decide +kernel
theorem dX9_heightOf_17 : decode cX9_heightOf 17 = .ok (.iload_n 2, 1) := by decide +kernel
theorem dX9_heightOf_18 : decode cX9_heightOf 18 = .ok (.iaload, 1) := by decide +kernel
theorem dX9_heightOf_19 : decode cX9_heightOf 19 = .ok (.iadd, 1) := by decide +kernel
theorem dX9_heightOf_20 : decode cX9_heightOf 20 = .ok (.iaload, 1) := by decide +kernel
theorem dX9_heightOf_21 : decode cX9_heightOf 21 = .ok (.iadd, 1) := by decide +kernel
theorem dX9_heightOf_22 : decode cX9_heightOf 22 = .ok (.ireturn, 1) := by decide +kernel
theorem dX9_endOf_0 : decode cX9_endOf 0 = .ok (.bipush 100, 2) := by decide +kernel
theorem dX9_endOf_2 : decode cX9_endOf 2 = .ok (.iload_n 1, 1) := by decide +kernel
theorem dX9_endOf_3 : decode cX9_endOf 3 = .ok (.imul, 1) := by decide +kernel
theorem dX9_endOf_4 : decode cX9_endOf 4 = .ok (.aload_n 0, 1) := by decide +kernel
theorem dX9_endOf_5 : decode cX9_endOf 5 = .ok (.getfield 22, 3) := by decide +kernel
theorem dX9_endOf_8 : decode cX9_endOf 8 = .ok (.iload_n 1, 1) := by decide +kernel
theorem dX9_endOf_9 : decode cX9_endOf 9 = .ok (.iaload, 1) := by decide +kernel
theorem dX9_endOf_10 : decode cX9_endOf 10 = .ok (.iadd, 1) := by decide +kernel
theorem dX9_endOf_11 : decode cX9_endOf 11 = .ok (.ireturn, 1) := by decide +kernel
theorem dX9_told_0 : decode cX9_told 0 = .ok (.iload_n 1, 1) := by decide +kernel
theorem dX9_told_1 : decode cX9_told 1 = .ok (.invokestatic 116, 3) := by decide +kernel
theorem dX9_told_4 : decode cX9_told 4 = .ok (.ifCond .eq 33, 3) := by decide +kernel
theorem dX9_told_7 : decode cX9_told 7 = .ok (.iload_n 2, 1) := by decide +kernel
theorem dX9_told_8 : decode cX9_told 8 = .ok (.i2l, 1) := by decide +kernel
theorem dX9_told_9 : decode cX9_told 9 = .ok (.lconst 0, 1) := by decide +kernel
theorem dX9_told_10 : decode cX9_told 10 = .ok (.aload_n 0, 1) := by decide +kernel
theorem dX9_told_11 : decode cX9_told 11 = .ok (.getfield 22, 3) := by decide +kernel
theorem dX9_told_14 : decode cX9_told 14 = .ok (.iload_n 1, 1) := by decide +kernel
theorem dX9_told_15 : decode cX9_told 15 = .ok (.iaload, 1) := by decide +kernel
theorem dX9_told_16 : decode cX9_told 16 = .ok (.iconst 1, 1) := by decide +kernel
theorem dX9_told_17 : decode cX9_told 17 = .ok (.isub, 1) := by decide +kernel
theorem dX9_told_18 : decode cX9_told 18 = .ok (.i2l, 1) := by decide +kernel
theorem dX9_told_19 : decode cX9_told 19 = .ok (.invokestatic 89, 3) := by decide +kernel
theorem dX9_told_22 : decode cX9_told 22 = .ok (.ifCond .eq 15, 3) := by decide +kernel
theorem dX9_told_25 : decode cX9_told 25 = .ok (.iload_n 3, 1) := by decide +kernel
theorem dX9_told_26 : decode cX9_told 26 = .ok (.i2l, 1) := by decide +kernel
theorem dX9_told_27 : decode cX9_told 27 = .ok (.lconst 0, 1) := by decide +kernel
theorem dX9_told_28 : decode cX9_told 28 = .ok (.ldc2_w 126, 3) := by decide +kernel
theorem dX9_told_31 : decode cX9_told 31 = .ok (.invokestatic 89, 3) := by decide +kernel
theorem dX9_told_34 : decode cX9_told 34 = .ok (.ifCond .ne 7, 3) := by decide +kernel
theorem dX9_told_37 : decode cX9_told 37 = .ok (.sipush (-10001), 3) := by decide +kernel
theorem dX9_told_40 : decode cX9_told 40 = .ok (.ireturn, 1) := by decide +kernel
theorem dX9_told_41 : decode cX9_told 41 = .ok (.bipush 100, 2) := by decide +kernel
theorem dX9_told_43 : decode cX9_told 43 = .ok (.iload_n 1, 1) := by decide +kernel
theorem dX9_told_44 : decode cX9_told 44 = .ok (.imul, 1) := by decide +kernel
theorem dX9_told_45 : decode cX9_told 45 = .ok (.iload_n 2, 1) := by decide +kernel
theorem dX9_told_46 : decode cX9_told 46 = .ok (.iadd, 1) := by decide +kernel
theorem dX9_told_47 : decode cX9_told 47 = .ok (.istore 4, 2) := by decide +kernel
theorem dX9_told_49 : decode cX9_told 49 = .ok (.iload_n 3, 1) := by decide +kernel
theorem dX9_told_50 : decode cX9_told 50 = .ok (.tableswitch 86 0 5 #[38, 46, 54, 62, 70, 78], 38) := by decide +kernel
theorem dX9_told_88 : decode cX9_told 88 = .ok (.aload_n 0, 1) := by decide +kernel
theorem dX9_told_89 : decode cX9_told 89 = .ok (.getfield 25, 3) := by decide +kernel
theorem dX9_told_92 : decode cX9_told 92 = .ok (.iload 4, 2) := by decide +kernel
theorem dX9_told_94 : decode cX9_told 94 = .ok (.iaload, 1) := by decide +kernel
theorem dX9_told_95 : decode cX9_told 95 = .ok (.ireturn, 1) := by decide +kernel
theorem dX9_told_96 : decode cX9_told 96 = .ok (.aload_n 0, 1) := by decide +kernel
theorem dX9_told_97 : decode cX9_told 97 = .ok (.getfield 28, 3) := by decide +kernel
theorem dX9_told_100 : decode cX9_told 100 = .ok (.iload 4, 2) := by decide +kernel
theorem dX9_told_102 : decode cX9_told 102 = .ok (.iaload, 1) := by decide +kernel
theorem dX9_told_103 : decode cX9_told 103 = .ok (.ireturn, 1) := by decide +kernel
theorem dX9_told_104 : decode cX9_told 104 = .ok (.aload_n 0, 1) := by decide +kernel
theorem dX9_told_105 : decode cX9_told 105 = .ok (.iload_n 1, 1) := by decide +kernel
theorem dX9_told_106 : decode cX9_told 106 = .ok (.iload 4, 2) := by decide +kernel
theorem dX9_told_108 : decode cX9_told 108 = .ok (.invokevirtual 128, 3) := by decide +kernel
theorem dX9_told_111 : decode cX9_told 111 = .ok (.ireturn, 1) := by decide +kernel
theorem dX9_told_112 : decode cX9_told 112 = .ok (.aload_n 0, 1) := by decide +kernel
theorem dX9_told_113 : decode cX9_told 113 = .ok (.getfield 34, 3) := by decide +kernel
theorem dX9_told_116 : decode cX9_told 116 = .ok (.iload 4, 2) := by decide +kernel
theorem dX9_told_118 : decode cX9_told 118 = .ok (.iaload, 1) := by decide +kernel
theorem dX9_told_119 : decode cX9_told 119 = .ok (.ireturn, 1) := by decide +kernel
theorem dX9_told_120 : decode cX9_told 120 = .ok (.aload_n 0, 1) := by decide +kernel
theorem dX9_told_121 : decode cX9_told 121 = .ok (.getfield 37, 3) := by decide +kernel
theorem dX9_told_124 : decode cX9_told 124 = .ok (.iload 4, 2) := by decide +kernel
theorem dX9_told_126 : decode cX9_told 126 = .ok (.iaload, 1) := by decide +kernel
theorem dX9_told_127 : decode cX9_told 127 = .ok (.ireturn, 1) := by decide +kernel
theorem dX9_told_128 : decode cX9_told 128 = .ok (.aload_n 0, 1) := by decide +kernel
theorem dX9_told_129 : decode cX9_told 129 = .ok (.getfield 40, 3) := by decide +kernel
theorem dX9_told_132 : decode cX9_told 132 = .ok (.iload 4, 2) := by decide +kernel
theorem dX9_told_134 : decode cX9_told 134 = .ok (.iaload, 1) := by decide +kernel
theorem dX9_told_135 : decode cX9_told 135 = .ok (.ireturn, 1) := by decide +kernel
theorem dX9_told_136 : decode cX9_told 136 = .ok (.aload_n 0, 1) := by decide +kernel
theorem dX9_told_137 : decode cX9_told 137 = .ok (.getfield 37, 3) := by decide +kernel
theorem dX9_told_140 : decode cX9_told 140 = .ok (.iload 4, 2) := by decide +kernel
theorem dX9_told_142 : decode cX9_told 142 = .ok (.iaload, 1) := by decide +kernel
theorem dX9_told_143 : decode cX9_told 143 = .ok (.iconst 1, 1) := by decide +kernel
theorem dX9_told_144 : decode cX9_told 144 = .ok (.if_icmp .ne 13, 3) := by decide +kernel
theorem dX9_told_147 : decode cX9_told 147 = .ok (.aload_n 0, 1) := by decide +kernel
theorem dX9_told_148 : decode cX9_told 148 = .ok (.getfield 43, 3) := by decide +kernel
theorem dX9_told_151 : decode cX9_told 151 = .ok (.iload 4, 2) := by decide +kernel
theorem dX9_told_153 : decode cX9_told 153 = .ok (.iaload, 1) := by decide +kernel
theorem dX9_told_154 : decode cX9_told 154 = .ok (.goto 4, 3) := by decide +kernel
theorem dX9_told_157 : decode cX9_told 157 = .ok (.iconst (-1), 1) := by decide +kernel
theorem dX9_told_158 : decode cX9_told 158 = .ok (.ireturn, 1) := by decide +kernel
theorem dX9_lose_0 : decode cX9_lose 0 = .ok (.iload_n 1, 1) := by decide +kernel
theorem dX9_lose_1 : decode cX9_lose 1 = .ok (.invokestatic 116, 3) := by decide +kernel
theorem dX9_lose_4 : decode cX9_lose 4 = .ok (.ifCond .eq 15, 3) := by decide +kernel
theorem dX9_lose_7 : decode cX9_lose 7 = .ok (.iload_n 2, 1) := by decide +kernel
theorem dX9_lose_8 : decode cX9_lose 8 = .ok (.i2l, 1) := by decide +kernel
theorem dX9_lose_9 : decode cX9_lose 9 = .ok (.lconst 0, 1) := by decide +kernel
theorem dX9_lose_10 : decode cX9_lose 10 = .ok (.ldc2_w 131, 3) := by decide +kernel
theorem dX9_lose_13 : decode cX9_lose 13 = .ok (.invokestatic 89, 3) := by decide +kernel
theorem dX9_lose_16 : decode cX9_lose 16 = .ok (.ifCond .ne 5, 3) := by decide +kernel
theorem dX9_lose_19 : decode cX9_lose 19 = .ok (.iconst (-1), 1) := by decide +kernel
theorem dX9_lose_20 : decode cX9_lose 20 = .ok (.ireturn, 1) := by decide +kernel
theorem dX9_lose_21 : decode cX9_lose 21 = .ok (.aload_n 0, 1) := by decide +kernel
theorem dX9_lose_22 : decode cX9_lose 22 = .ok (.getfield 46, 3) := by decide +kernel
theorem dX9_lose_25 : decode cX9_lose 25 = .ok (.bipush 16, 2) := by decide +kernel
theorem dX9_lose_27 : decode cX9_lose 27 = .ok (.iload_n 1, 1) := by decide +kernel
theorem dX9_lose_28 : decode cX9_lose 28 = .ok (.imul, 1) := by decide +kernel
theorem dX9_lose_29 : decode cX9_lose 29 = .ok (.iload_n 2, 1) := by decide +kernel
theorem dX9_lose_30 : decode cX9_lose 30 = .ok (.iadd, 1) := by decide +kernel
theorem dX9_lose_31 : decode cX9_lose 31 = .ok (.baload, 1) := by decide +kernel
theorem dX9_lose_32 : decode cX9_lose 32 = .ok (.ifCond .eq 6, 3) := by decide +kernel
theorem dX9_lose_35 : decode cX9_lose 35 = .ok (.bipush (-2), 2) := by decide +kernel
theorem dX9_lose_37 : decode cX9_lose 37 = .ok (.ireturn, 1) := by decide +kernel
theorem dX9_lose_38 : decode cX9_lose 38 = .ok (.aload_n 0, 1) := by decide +kernel
theorem dX9_lose_39 : decode cX9_lose 39 = .ok (.getfield 46, 3) := by decide +kernel
theorem dX9_lose_42 : decode cX9_lose 42 = .ok (.bipush 16, 2) := by decide +kernel
theorem dX9_lose_44 : decode cX9_lose 44 = .ok (.iload_n 1, 1) := by decide +kernel
theorem dX9_lose_45 : decode cX9_lose 45 = .ok (.imul, 1) := by decide +kernel
theorem dX9_lose_46 : decode cX9_lose 46 = .ok (.iload_n 2, 1) := by decide +kernel
theorem dX9_lose_47 : decode cX9_lose 47 = .ok (.iadd, 1) := by decide +kernel
theorem dX9_lose_48 : decode cX9_lose 48 = .ok (.iconst 1, 1) := by decide +kernel
theorem dX9_lose_49 : decode cX9_lose 49 = .ok (.bastore, 1) := by decide +kernel
theorem dX9_lose_50 : decode cX9_lose 50 = .ok (.aload_n 0, 1) := by decide +kernel
theorem dX9_lose_51 : decode cX9_lose 51 = .ok (.getfield 22, 3) := by decide +kernel
theorem dX9_lose_54 : decode cX9_lose 54 = .ok (.iload_n 1, 1) := by decide +kernel
theorem dX9_lose_55 : decode cX9_lose 55 = .ok (.iaload, 1) := by decide +kernel
theorem dX9_lose_56 : decode cX9_lose 56 = .ok (.istore_n 3, 1) := by decide +kernel
theorem dX9_lose_57 : decode cX9_lose 57 = .ok (.bipush 100, 2) := by decide +kernel
theorem dX9_lose_59 : decode cX9_lose 59 = .ok (.iload_n 1, 1) := by decide +kernel
theorem dX9_lose_60 : decode cX9_lose 60 = .ok (.imul, 1) := by decide +kernel
theorem dX9_lose_61 : decode cX9_lose 61 = .ok (.istore 4, 2) := by decide +kernel
theorem dX9_lose_63 : decode cX9_lose 63 = .ok (.bipush 100, 2) := by decide +kernel
theorem dX9_lose_65 : decode cX9_lose 65 = .ok (.iload_n 1, 1) := by decide +kernel
theorem dX9_lose_66 : decode cX9_lose 66 = .ok (.imul, 1) := by decide +kernel
theorem dX9_lose_67 : decode cX9_lose 67 = .ok (.istore 5, 2) := by decide +kernel
theorem dX9_lose_69 : decode cX9_lose 69 = .ok (.iload 5, 2) := by decide +kernel
theorem dX9_lose_71 : decode cX9_lose 71 = .ok (.bipush 100, 2) := by decide +kernel
theorem dX9_lose_73 : decode cX9_lose 73 = .ok (.iload_n 1, 1) := by decide +kernel
theorem dX9_lose_74 : decode cX9_lose 74 = .ok (.imul, 1) := by decide +kernel
theorem dX9_lose_75 : decode cX9_lose 75 = .ok (.iload_n 3, 1) := by decide +kernel
theorem dX9_lose_76 : decode cX9_lose 76 = .ok (.iadd, 1) := by decide +kernel
theorem dX9_lose_77 : decode cX9_lose 77 = .ok (.if_icmp .ge 131, 3) := by decide +kernel
theorem dX9_lose_80 : decode cX9_lose 80 = .ok (.aload_n 0, 1) := by decide +kernel
theorem dX9_lose_81 : decode cX9_lose 81 = .ok (.getfield 25, 3) := by decide +kernel
theorem dX9_lose_84 : decode cX9_lose 84 = .ok (.iload 5, 2) := by decide +kernel
theorem dX9_lose_86 : decode cX9_lose 86 = .ok (.iaload, 1) := by decide +kernel
theorem dX9_lose_87 : decode cX9_lose 87 = .ok (.aload_n 0, 1) := by decide +kernel
theorem dX9_lose_88 : decode cX9_lose 88 = .ok (.getfield 28, 3) := by decide +kernel
theorem dX9_lose_91 : decode cX9_lose 91 = .ok (.iload 5, 2) := by decide +kernel
theorem dX9_lose_93 : decode cX9_lose 93 = .ok (.iaload, 1) := by decide +kernel
theorem dX9_lose_94 : decode cX9_lose 94 = .ok (.invokestatic 113, 3) := by decide +kernel
theorem dX9_lose_97 : decode cX9_lose 97 = .ok (.iload_n 2, 1) := by decide +kernel
theorem dX9_lose_98 : decode cX9_lose 98 = .ok (.if_icmp .eq 104, 3) := by decide +kernel
theorem dX9_lose_101 : decode cX9_lose 101 = .ok (.aload_n 0, 1) := by decide +kernel
theorem dX9_lose_102 : decode cX9_lose 102 = .ok (.getfield 25, 3) := by decide +kernel
theorem dX9_lose_105 : decode cX9_lose 105 = .ok (.iload 4, 2) := by decide +kernel
theorem dX9_lose_107 : decode cX9_lose 107 = .ok (.aload_n 0, 1) := by decide +kernel
theorem dX9_lose_108 : decode cX9_lose 108 = .ok (.getfield 25, 3) := by decide +kernel
theorem dX9_lose_111 : decode cX9_lose 111 = .ok (.iload 5, 2) := by decide +kernel
theorem dX9_lose_113 : decode cX9_lose 113 = .ok (.iaload, 1) := by decide +kernel
theorem dX9_lose_114 : decode cX9_lose 114 = .ok (.iastore, 1) := by decide +kernel
theorem dX9_lose_115 : decode cX9_lose 115 = .ok (.aload_n 0, 1) := by decide +kernel
theorem dX9_lose_116 : decode cX9_lose 116 = .ok (.getfield 28, 3) := by decide +kernel
theorem dX9_lose_119 : decode cX9_lose 119 = .ok (.iload 4, 2) := by decide +kernel
theorem dX9_lose_121 : decode cX9_lose 121 = .ok (.aload_n 0, 1) := by decide +kernel
theorem dX9_lose_122 : decode cX9_lose 122 = .ok (.getfield 28, 3) := by decide +kernel
theorem dX9_lose_125 : decode cX9_lose 125 = .ok (.iload 5, 2) := by decide +kernel
theorem dX9_lose_127 : decode cX9_lose 127 = .ok (.iaload, 1) := by decide +kernel
theorem dX9_lose_128 : decode cX9_lose 128 = .ok (.iastore, 1) := by decide +kernel
theorem dX9_lose_129 : decode cX9_lose 129 = .ok (.aload_n 0, 1) := by decide +kernel
theorem dX9_lose_130 : decode cX9_lose 130 = .ok (.getfield 31, 3) := by decide +kernel
theorem dX9_lose_133 : decode cX9_lose 133 = .ok (.iload 4, 2) := by decide +kernel
theorem dX9_lose_135 : decode cX9_lose 135 = .ok (.aload_n 0, 1) := by decide +kernel
theorem dX9_lose_136 : decode cX9_lose 136 = .ok (.getfield 31, 3) := by decide +kernel
theorem dX9_lose_139 : decode cX9_lose 139 = .ok (.iload 5, 2) := by decide +kernel
theorem dX9_lose_141 : decode cX9_lose 141 = .ok (.iaload, 1) := by decide +kernel
theorem dX9_lose_142 : decode cX9_lose 142 = .ok (.iastore, 1) := by decide +kernel
theorem dX9_lose_143 : decode cX9_lose 143 = .ok (.aload_n 0, 1) := by decide +kernel
theorem dX9_lose_144 : decode cX9_lose 144 = .ok (.getfield 34, 3) := by decide +kernel
theorem dX9_lose_147 : decode cX9_lose 147 = .ok (.iload 4, 2) := by decide +kernel
theorem dX9_lose_149 : decode cX9_lose 149 = .ok (.aload_n 0, 1) := by decide +kernel
theorem dX9_lose_150 : decode cX9_lose 150 = .ok (.getfield 34, 3) := by decide +kernel
theorem dX9_lose_153 : decode cX9_lose 153 = .ok (.iload 5, 2) := by decide +kernel
theorem dX9_lose_155 : decode cX9_lose 155 = .ok (.iaload, 1) := by decide +kernel
theorem dX9_lose_156 : decode cX9_lose 156 = .ok (.iastore, 1) := by decide +kernel
theorem dX9_lose_157 : decode cX9_lose 157 = .ok (.aload_n 0, 1) := by decide +kernel
theorem dX9_lose_158 : decode cX9_lose 158 = .ok (.getfield 37, 3) := by decide +kernel
theorem dX9_lose_161 : decode cX9_lose 161 = .ok (.iload 4, 2) := by decide +kernel
theorem dX9_lose_163 : decode cX9_lose 163 = .ok (.aload_n 0, 1) := by decide +kernel
theorem dX9_lose_164 : decode cX9_lose 164 = .ok (.getfield 37, 3) := by decide +kernel
theorem dX9_lose_167 : decode cX9_lose 167 = .ok (.iload 5, 2) := by decide +kernel
theorem dX9_lose_169 : decode cX9_lose 169 = .ok (.iaload, 1) := by decide +kernel
theorem dX9_lose_170 : decode cX9_lose 170 = .ok (.iastore, 1) := by decide +kernel
theorem dX9_lose_171 : decode cX9_lose 171 = .ok (.aload_n 0, 1) := by decide +kernel
theorem dX9_lose_172 : decode cX9_lose 172 = .ok (.getfield 40, 3) := by decide +kernel
theorem dX9_lose_175 : decode cX9_lose 175 = .ok (.iload 4, 2) := by decide +kernel
theorem dX9_lose_177 : decode cX9_lose 177 = .ok (.aload_n 0, 1) := by decide +kernel
theorem dX9_lose_178 : decode cX9_lose 178 = .ok (.getfield 40, 3) := by decide +kernel
theorem dX9_lose_181 : decode cX9_lose 181 = .ok (.iload 5, 2) := by decide +kernel
theorem dX9_lose_183 : decode cX9_lose 183 = .ok (.iaload, 1) := by decide +kernel
theorem dX9_lose_184 : decode cX9_lose 184 = .ok (.iastore, 1) := by decide +kernel
theorem dX9_lose_185 : decode cX9_lose 185 = .ok (.aload_n 0, 1) := by decide +kernel
theorem dX9_lose_186 : decode cX9_lose 186 = .ok (.getfield 43, 3) := by decide +kernel
theorem dX9_lose_189 : decode cX9_lose 189 = .ok (.iload 4, 2) := by decide +kernel
theorem dX9_lose_191 : decode cX9_lose 191 = .ok (.aload_n 0, 1) := by decide +kernel
theorem dX9_lose_192 : decode cX9_lose 192 = .ok (.getfield 43, 3) := by decide +kernel
theorem dX9_lose_195 : decode cX9_lose 195 = .ok (.iload 5, 2) := by decide +kernel
theorem dX9_lose_197 : decode cX9_lose 197 = .ok (.iaload, 1) := by decide +kernel
theorem dX9_lose_198 : decode cX9_lose 198 = .ok (.iastore, 1) := by decide +kernel
theorem dX9_lose_199 : decode cX9_lose 199 = .ok (.iinc 4 1, 3) := by decide +kernel
theorem dX9_lose_202 : decode cX9_lose 202 = .ok (.iinc 5 1, 3) := by decide +kernel
theorem dX9_lose_205 : decode cX9_lose 205 = .ok (.goto (-136), 3) := by decide +kernel
theorem dX9_lose_208 : decode cX9_lose 208 = .ok (.aload_n 0, 1) := by decide +kernel
theorem dX9_lose_209 : decode cX9_lose 209 = .ok (.getfield 22, 3) := by decide +kernel
theorem dX9_lose_212 : decode cX9_lose 212 = .ok (.iload_n 1, 1) := by decide +kernel
theorem dX9_lose_213 : decode cX9_lose 213 = .ok (.iload 4, 2) := by decide +kernel
theorem dX9_lose_215 : decode cX9_lose 215 = .ok (.bipush 100, 2) := by decide +kernel
theorem dX9_lose_217 : decode cX9_lose 217 = .ok (.iload_n 1, 1) := by decide +kernel
theorem dX9_lose_218 : decode cX9_lose 218 = .ok (.imul, 1) := by decide +kernel
theorem dX9_lose_219 : decode cX9_lose 219 = .ok (.isub, 1) := by decide +kernel
theorem dX9_lose_220 : decode cX9_lose 220 = .ok (.iastore, 1) := by decide +kernel
theorem dX9_lose_221 : decode cX9_lose 221 = .ok (.iload_n 3, 1) := by decide +kernel
theorem dX9_lose_222 : decode cX9_lose 222 = .ok (.aload_n 0, 1) := by decide +kernel
theorem dX9_lose_223 : decode cX9_lose 223 = .ok (.getfield 22, 3) := by decide +kernel
theorem dX9_lose_226 : decode cX9_lose 226 = .ok (.iload_n 1, 1) := by decide +kernel
theorem dX9_lose_227 : decode cX9_lose 227 = .ok (.iaload, 1) := by decide +kernel
theorem dX9_lose_228 : decode cX9_lose 228 = .ok (.isub, 1) := by decide +kernel
theorem dX9_lose_229 : decode cX9_lose 229 = .ok (.ireturn, 1) := by decide +kernel
theorem dX9_box_0 : decode cX9_box 0 = .ok (.iload_n 1, 1) := by decide +kernel
theorem dX9_box_1 : decode cX9_box 1 = .ok (.invokestatic 116, 3) := by decide +kernel
theorem dX9_box_4 : decode cX9_box 4 = .ok (.ifCond .eq 55, 3) := by decide +kernel
theorem dX9_box_7 : decode cX9_box 7 = .ok (.iload_n 2, 1) := by decide +kernel
theorem dX9_box_8 : decode cX9_box 8 = .ok (.i2l, 1) := by decide +kernel
theorem dX9_box_9 : decode cX9_box 9 = .ok (.lconst 0, 1) := by decide +kernel
theorem dX9_box_10 : decode cX9_box 10 = .ok (.ldc2_w 107, 3) := by decide +kernel
theorem dX9_box_13 : decode cX9_box 13 = .ok (.invokestatic 89, 3) := by decide +kernel
theorem dX9_box_16 : decode cX9_box 16 = .ok (.ifCond .eq 43, 3) := by decide +kernel
theorem dX9_box_19 : decode cX9_box 19 = .ok (.iload_n 3, 1) := by decide +kernel
theorem dX9_box_20 : decode cX9_box 20 = .ok (.i2l, 1) := by decide +kernel
theorem dX9_box_21 : decode cX9_box 21 = .ok (.lconst 0, 1) := by decide +kernel
theorem dX9_box_22 : decode cX9_box 22 = .ok (.ldc2_w 107, 3) := by decide +kernel
theorem dX9_box_25 : decode cX9_box 25 = .ok (.invokestatic 89, 3) := by decide +kernel
theorem dX9_box_28 : decode cX9_box 28 = .ok (.ifCond .eq 31, 3) := by decide +kernel
theorem dX9_box_31 : decode cX9_box 31 = .ok (.iload 4, 2) := by decide +kernel
theorem dX9_box_33 : decode cX9_box 33 = .ok (.i2l, 1) := by decide +kernel
theorem dX9_box_34 : decode cX9_box 34 = .ok (.iload_n 2, 1) := by decide +kernel
theorem dX9_box_35 : decode cX9_box 35 = .ok (.i2l, 1) := by decide +kernel
theorem dX9_box_36 : decode cX9_box 36 = .ok (.ldc2_w 107, 3) := by decide +kernel
theorem dX9_box_39 : decode cX9_box 39 = .ok (.invokestatic 89, 3) := by decide +kernel
theorem dX9_box_42 : decode cX9_box 42 = .ok (.ifCond .eq 17, 3) := by decide +kernel
theorem dX9_box_45 : decode cX9_box 45 = .ok (.iload 5, 2) := by decide +kernel
theorem dX9_box_47 : decode cX9_box 47 = .ok (.i2l, 1) := by decide +kernel
theorem dX9_box_48 : decode cX9_box 48 = .ok (.iload_n 3, 1) := by decide +kernel
theorem dX9_box_49 : decode cX9_box 49 = .ok (.i2l, 1) := by decide +kernel
theorem dX9_box_50 : decode cX9_box 50 = .ok (.ldc2_w 107, 3) := by decide +kernel
theorem dX9_box_53 : decode cX9_box 53 = .ok (.invokestatic 89, 3) := by decide +kernel
theorem dX9_box_56 : decode cX9_box 56 = .ok (.ifCond .ne 5, 3) := by decide +kernel
theorem dX9_box_59 : decode cX9_box 59 = .ok (.iconst (-1), 1) := by decide +kernel
theorem dX9_box_60 : decode cX9_box 60 = .ok (.ireturn, 1) := by decide +kernel
theorem dX9_box_61 : decode cX9_box 61 = .ok (.iload_n 2, 1) := by decide +kernel
theorem dX9_box_62 : decode cX9_box 62 = .ok (.bipush 16, 2) := by decide +kernel
theorem dX9_box_64 : decode cX9_box 64 = .ok (.idiv, 1) := by decide +kernel
theorem dX9_box_65 : decode cX9_box 65 = .ok (.istore 6, 2) := by decide +kernel
theorem dX9_box_67 : decode cX9_box 67 = .ok (.iload 6, 2) := by decide +kernel
theorem dX9_box_69 : decode cX9_box 69 = .ok (.iload 4, 2) := by decide +kernel
theorem dX9_box_71 : decode cX9_box 71 = .ok (.bipush 16, 2) := by decide +kernel
theorem dX9_box_73 : decode cX9_box 73 = .ok (.idiv, 1) := by decide +kernel
theorem dX9_box_74 : decode cX9_box 74 = .ok (.if_icmp .gt 54, 3) := by decide +kernel
theorem dX9_box_77 : decode cX9_box 77 = .ok (.iload_n 3, 1) := by decide +kernel
theorem dX9_box_78 : decode cX9_box 78 = .ok (.bipush 16, 2) := by decide +kernel
theorem dX9_box_80 : decode cX9_box 80 = .ok (.idiv, 1) := by decide +kernel
theorem dX9_box_81 : decode cX9_box 81 = .ok (.istore 7, 2) := by decide +kernel
theorem dX9_box_83 : decode cX9_box 83 = .ok (.iload 7, 2) := by decide +kernel
theorem dX9_box_85 : decode cX9_box 85 = .ok (.iload 5, 2) := by decide +kernel
theorem dX9_box_87 : decode cX9_box 87 = .ok (.bipush 16, 2) := by decide +kernel
theorem dX9_box_89 : decode cX9_box 89 = .ok (.idiv, 1) := by decide +kernel
theorem dX9_box_90 : decode cX9_box 90 = .ok (.if_icmp .gt 32, 3) := by decide +kernel
theorem dX9_box_93 : decode cX9_box 93 = .ok (.aload_n 0, 1) := by decide +kernel
theorem dX9_box_94 : decode cX9_box 94 = .ok (.getfield 46, 3) := by decide +kernel
theorem dX9_box_97 : decode cX9_box 97 = .ok (.bipush 16, 2) := by decide +kernel
theorem dX9_box_99 : decode cX9_box 99 = .ok (.iload_n 1, 1) := by decide +kernel
theorem dX9_box_100 : decode cX9_box 100 = .ok (.imul, 1) := by decide +kernel
theorem dX9_box_101 : decode cX9_box 101 = .ok (.iload 6, 2) := by decide +kernel
theorem dX9_box_103 : decode cX9_box 103 = .ok (.iadd, 1) := by decide +kernel
theorem dX9_box_104 : decode cX9_box 104 = .ok (.iconst 4, 1) := by decide +kernel
theorem dX9_box_105 : decode cX9_box 105 = .ok (.iload 7, 2) := by decide +kernel
theorem dX9_box_107 : decode cX9_box 107 = .ok (.imul, 1) := by decide +kernel
theorem dX9_box_108 : decode cX9_box 108 = .ok (.iadd, 1) := by decide +kernel
theorem dX9_box_109 : decode cX9_box 109 = .ok (.baload, 1) := by decide +kernel
theorem dX9_box_110 : decode cX9_box 110 = .ok (.ifCond .eq 6, 3) := by decide +kernel
theorem dX9_box_113 : decode cX9_box 113 = .ok (.bipush (-2), 2) := by decide +kernel
theorem dX9_box_115 : decode cX9_box 115 = .ok (.ireturn, 1) := by decide +kernel
theorem dX9_box_116 : decode cX9_box 116 = .ok (.iinc 7 1, 3) := by decide +kernel
theorem dX9_box_119 : decode cX9_box 119 = .ok (.goto (-36), 3) := by decide +kernel
theorem dX9_box_122 : decode cX9_box 122 = .ok (.iinc 6 1, 3) := by decide +kernel
theorem dX9_box_125 : decode cX9_box 125 = .ok (.goto (-58), 3) := by decide +kernel
theorem dX9_box_128 : decode cX9_box 128 = .ok (.iconst 0, 1) := by decide +kernel
theorem dX9_box_129 : decode cX9_box 129 = .ok (.istore 6, 2) := by decide +kernel
theorem dX9_box_131 : decode cX9_box 131 = .ok (.bipush 100, 2) := by decide +kernel
theorem dX9_box_133 : decode cX9_box 133 = .ok (.iload_n 1, 1) := by decide +kernel
theorem dX9_box_134 : decode cX9_box 134 = .ok (.imul, 1) := by decide +kernel
theorem dX9_box_135 : decode cX9_box 135 = .ok (.istore 7, 2) := by decide +kernel
theorem dX9_box_137 : decode cX9_box 137 = .ok (.iload 7, 2) := by decide +kernel
theorem dX9_box_139 : decode cX9_box 139 = .ok (.aload_n 0, 1) := by decide +kernel
theorem dX9_box_140 : decode cX9_box 140 = .ok (.iload_n 1, 1) := by decide +kernel
theorem dX9_box_141 : decode cX9_box 141 = .ok (.invokevirtual 133, 3) := by decide +kernel
theorem dX9_box_144 : decode cX9_box 144 = .ok (.if_icmp .ge 57, 3) := by decide +kernel
theorem dX9_box_147 : decode cX9_box 147 = .ok (.iload 6, 2) := by decide +kernel
theorem dX9_box_149 : decode cX9_box 149 = .ok (.aload_n 0, 1) := by decide +kernel
theorem dX9_box_150 : decode cX9_box 150 = .ok (.getfield 25, 3) := by decide +kernel
theorem dX9_box_153 : decode cX9_box 153 = .ok (.iload 7, 2) := by decide +kernel
theorem dX9_box_155 : decode cX9_box 155 = .ok (.iaload, 1) := by decide +kernel
theorem dX9_box_156 : decode cX9_box 156 = .ok (.i2l, 1) := by decide +kernel
theorem dX9_box_157 : decode cX9_box 157 = .ok (.iload_n 2, 1) := by decide +kernel
theorem dX9_box_158 : decode cX9_box 158 = .ok (.i2l, 1) := by decide +kernel
theorem dX9_box_159 : decode cX9_box 159 = .ok (.iload 4, 2) := by decide +kernel
theorem dX9_box_161 : decode cX9_box 161 = .ok (.i2l, 1) := by decide +kernel
theorem dX9_box_162 : decode cX9_box 162 = .ok (.invokestatic 89, 3) := by decide +kernel
theorem dX9_box_165 : decode cX9_box 165 = .ok (.ifCond .eq 26, 3) := by decide +kernel
theorem dX9_box_168 : decode cX9_box 168 = .ok (.aload_n 0, 1) := by decide +kernel
theorem dX9_box_169 : decode cX9_box 169 = .ok (.getfield 28, 3) := by decide +kernel
theorem dX9_box_172 : decode cX9_box 172 = .ok (.iload 7, 2) := by decide +kernel
theorem dX9_box_174 : decode cX9_box 174 = .ok (.iaload, 1) := by decide +kernel
theorem dX9_box_175 : decode cX9_box 175 = .ok (.i2l, 1) := by decide +kernel
theorem dX9_box_176 : decode cX9_box 176 = .ok (.iload_n 3, 1) := by decide +kernel
theorem dX9_box_177 : decode cX9_box 177 = .ok (.i2l, 1) := by decide +kernel
theorem dX9_box_178 : decode cX9_box 178 = .ok (.iload 5, 2) := by decide +kernel
theorem dX9_box_180 : decode cX9_box 180 = .ok (.i2l, 1) := by decide +kernel
theorem dX9_box_181 : decode cX9_box 181 = .ok (.invokestatic 89, 3) := by decide +kernel
theorem dX9_box_184 : decode cX9_box 184 = .ok (.ifCond .eq 7, 3) := by decide +kernel
theorem dX9_box_187 : decode cX9_box 187 = .ok (.iconst 1, 1) := by decide +kernel
theorem dX9_box_188 : decode cX9_box 188 = .ok (.goto 4, 3) := by decide +kernel
theorem dX9_box_191 : decode cX9_box 191 = .ok (.iconst 0, 1) := by decide +kernel
theorem dX9_box_192 : decode cX9_box 192 = .ok (.iadd, 1) := by decide +kernel
theorem dX9_box_193 : decode cX9_box 193 = .ok (.istore 6, 2) := by decide +kernel
theorem dX9_box_195 : decode cX9_box 195 = .ok (.iinc 7 1, 3) := by decide +kernel
theorem dX9_box_198 : decode cX9_box 198 = .ok (.goto (-61), 3) := by decide +kernel
theorem dX9_box_201 : decode cX9_box 201 = .ok (.iload 6, 2) := by decide +kernel
theorem dX9_box_203 : decode cX9_box 203 = .ok (.ireturn, 1) := by decide +kernel
theorem dX9_shift_0 : decode cX9_shift 0 = .ok (.iload_n 1, 1) := by decide +kernel
theorem dX9_shift_1 : decode cX9_shift 1 = .ok (.invokestatic 116, 3) := by decide +kernel
theorem dX9_shift_4 : decode cX9_shift 4 = .ok (.ifCond .eq 29, 3) := by decide +kernel
theorem dX9_shift_7 : decode cX9_shift 7 = .ok (.iload_n 2, 1) := by decide +kernel
theorem dX9_shift_8 : decode cX9_shift 8 = .ok (.i2l, 1) := by decide +kernel
theorem dX9_shift_9 : decode cX9_shift 9 = .ok (.lconst 0, 1) := by decide +kernel
theorem dX9_shift_10 : decode cX9_shift 10 = .ok (.ldc2_w 87, 3) := by decide +kernel
theorem dX9_shift_13 : decode cX9_shift 13 = .ok (.invokestatic 89, 3) := by decide +kernel
theorem dX9_shift_16 : decode cX9_shift 16 = .ok (.ifCond .eq 17, 3) := by decide +kernel
theorem dX9_shift_19 : decode cX9_shift 19 = .ok (.iload_n 3, 1) := by decide +kernel
theorem dX9_shift_20 : decode cX9_shift 20 = .ok (.i2l, 1) := by decide +kernel
theorem dX9_shift_21 : decode cX9_shift 21 = .ok (.ldc2_w 137, 3) := by decide +kernel
theorem dX9_shift_24 : decode cX9_shift 24 = .ok (.ldc2_w 139, 3) := by decide +kernel
theorem dX9_shift_27 : decode cX9_shift 27 = .ok (.invokestatic 89, 3) := by decide +kernel
theorem dX9_shift_30 : decode cX9_shift 30 = .ok (.ifCond .ne 7, 3) := by decide +kernel
theorem dX9_shift_33 : decode cX9_shift 33 = .ok (.sipush (-10001), 3) := by decide +kernel
theorem dX9_shift_36 : decode cX9_shift 36 = .ok (.ireturn, 1) := by decide +kernel
theorem dX9_shift_37 : decode cX9_shift 37 = .ok (.aload_n 0, 1) := by decide +kernel
theorem dX9_shift_38 : decode cX9_shift 38 = .ok (.getfield 50, 3) := by decide +kernel
theorem dX9_shift_41 : decode cX9_shift 41 = .ok (.iconst 4, 1) := by decide +kernel
theorem dX9_shift_42 : decode cX9_shift 42 = .ok (.iload_n 1, 1) := by decide +kernel
theorem dX9_shift_43 : decode cX9_shift 43 = .ok (.imul, 1) := by decide +kernel
theorem dX9_shift_44 : decode cX9_shift 44 = .ok (.iload_n 2, 1) := by decide +kernel
theorem dX9_shift_45 : decode cX9_shift 45 = .ok (.iadd, 1) := by decide +kernel
theorem dX9_shift_46 : decode cX9_shift 46 = .ok (.iaload, 1) := by decide +kernel
theorem dX9_shift_47 : decode cX9_shift 47 = .ok (.istore 4, 2) := by decide +kernel
theorem dX9_shift_49 : decode cX9_shift 49 = .ok (.aload_n 0, 1) := by decide +kernel
theorem dX9_shift_50 : decode cX9_shift 50 = .ok (.getfield 50, 3) := by decide +kernel
theorem dX9_shift_53 : decode cX9_shift 53 = .ok (.iconst 4, 1) := by decide +kernel
theorem dX9_shift_54 : decode cX9_shift 54 = .ok (.iload_n 1, 1) := by decide +kernel
theorem dX9_shift_55 : decode cX9_shift 55 = .ok (.imul, 1) := by decide +kernel
theorem dX9_shift_56 : decode cX9_shift 56 = .ok (.iload_n 2, 1) := by decide +kernel
theorem dX9_shift_57 : decode cX9_shift 57 = .ok (.iadd, 1) := by decide +kernel
theorem dX9_shift_58 : decode cX9_shift 58 = .ok (.iload_n 3, 1) := by decide +kernel
theorem dX9_shift_59 : decode cX9_shift 59 = .ok (.iastore, 1) := by decide +kernel
theorem dX9_shift_60 : decode cX9_shift 60 = .ok (.iload 4, 2) := by decide +kernel
theorem dX9_shift_62 : decode cX9_shift 62 = .ok (.ireturn, 1) := by decide +kernel
theorem dX9_arePair_0 : decode cX9_arePair 0 = .ok (.aload_n 0, 1) := by decide +kernel
theorem dX9_arePair_1 : decode cX9_arePair 1 = .ok (.getfield 34, 3) := by decide +kernel
theorem dX9_arePair_4 : decode cX9_arePair 4 = .ok (.iload_n 1, 1) := by decide +kernel
theorem dX9_arePair_5 : decode cX9_arePair 5 = .ok (.iaload, 1) := by decide +kernel
theorem dX9_arePair_6 : decode cX9_arePair 6 = .ok (.aload_n 0, 1) := by decide +kernel
theorem dX9_arePair_7 : decode cX9_arePair 7 = .ok (.getfield 34, 3) := by decide +kernel
theorem dX9_arePair_10 : decode cX9_arePair 10 = .ok (.iload_n 2, 1) := by decide +kernel
theorem dX9_arePair_11 : decode cX9_arePair 11 = .ok (.iaload, 1) := by decide +kernel
theorem dX9_arePair_12 : decode cX9_arePair 12 = .ok (.if_icmp .eq 45, 3) := by decide +kernel
theorem dX9_arePair_15 : decode cX9_arePair 15 = .ok (.aload_n 0, 1) := by decide +kernel
theorem dX9_arePair_16 : decode cX9_arePair 16 = .ok (.getfield 25, 3) := by decide +kernel
theorem dX9_arePair_19 : decode cX9_arePair 19 = .ok (.iload_n 1, 1) := by decide +kernel
theorem dX9_arePair_20 : decode cX9_arePair 20 = .ok (.iaload, 1) := by decide +kernel
theorem dX9_arePair_21 : decode cX9_arePair 21 = .ok (.iconst 4, 1) := by decide +kernel
theorem dX9_arePair_22 : decode cX9_arePair 22 = .ok (.idiv, 1) := by decide +kernel
theorem dX9_arePair_23 : decode cX9_arePair 23 = .ok (.aload_n 0, 1) := by decide +kernel
theorem dX9_arePair_24 : decode cX9_arePair 24 = .ok (.getfield 25, 3) := by decide +kernel
theorem dX9_arePair_27 : decode cX9_arePair 27 = .ok (.iload_n 2, 1) := by decide +kernel
theorem dX9_arePair_28 : decode cX9_arePair 28 = .ok (.iaload, 1) := by decide +kernel
theorem dX9_arePair_29 : decode cX9_arePair 29 = .ok (.iconst 4, 1) := by decide +kernel
theorem dX9_arePair_30 : decode cX9_arePair 30 = .ok (.idiv, 1) := by decide +kernel
theorem dX9_arePair_31 : decode cX9_arePair 31 = .ok (.if_icmp .ne 26, 3) := by decide +kernel
theorem dX9_arePair_34 : decode cX9_arePair 34 = .ok (.aload_n 0, 1) := by decide +kernel
theorem dX9_arePair_35 : decode cX9_arePair 35 = .ok (.getfield 28, 3) := by decide +kernel
theorem dX9_arePair_38 : decode cX9_arePair 38 = .ok (.iload_n 1, 1) := by decide +kernel
theorem dX9_arePair_39 : decode cX9_arePair 39 = .ok (.iaload, 1) := by decide +kernel
theorem dX9_arePair_40 : decode cX9_arePair 40 = .ok (.iconst 4, 1) := by decide +kernel
theorem dX9_arePair_41 : decode cX9_arePair 41 = .ok (.idiv, 1) := by decide +kernel
theorem dX9_arePair_42 : decode cX9_arePair 42 = .ok (.aload_n 0, 1) := by decide +kernel
theorem dX9_arePair_43 : decode cX9_arePair 43 = .ok (.getfield 28, 3) := by decide +kernel
theorem dX9_arePair_46 : decode cX9_arePair 46 = .ok (.iload_n 2, 1) := by decide +kernel
theorem dX9_arePair_47 : decode cX9_arePair 47 = .ok (.iaload, 1) := by decide +kernel
theorem dX9_arePair_48 : decode cX9_arePair 48 = .ok (.iconst 4, 1) := by decide +kernel
theorem dX9_arePair_49 : decode cX9_arePair 49 = .ok (.idiv, 1) := by decide +kernel
theorem dX9_arePair_50 : decode cX9_arePair 50 = .ok (.if_icmp .ne 7, 3) := by decide +kernel
theorem dX9_arePair_53 : decode cX9_arePair 53 = .ok (.iconst 1, 1) := by decide +kernel
theorem dX9_arePair_54 : decode cX9_arePair 54 = .ok (.goto 4, 3) := by decide +kernel
theorem dX9_arePair_57 : decode cX9_arePair 57 = .ok (.iconst 0, 1) := by decide +kernel
theorem dX9_arePair_58 : decode cX9_arePair 58 = .ok (.ireturn, 1) := by decide +kernel
theorem dX9_leftOver_0 : decode cX9_leftOver 0 = .ok (.iload_n 1, 1) := by decide +kernel
theorem dX9_leftOver_1 : decode cX9_leftOver 1 = .ok (.invokestatic 116, 3) := by decide +kernel
theorem dX9_leftOver_4 : decode cX9_leftOver 4 = .ok (.ifCond .ne 7, 3) := by decide +kernel
theorem dX9_leftOver_7 : decode cX9_leftOver 7 = .ok (.ldc2_w 141, 3) := by decide +kernel
theorem dX9_leftOver_10 : decode cX9_leftOver 10 = .ok (.lreturn, 1) := by decide +kernel
theorem dX9_leftOver_11 : decode cX9_leftOver 11 = .ok (.lconst 0, 1) := by decide +kernel
theorem dX9_leftOver_12 : decode cX9_leftOver 12 = .ok (.lstore_n 2, 1) := by decide +kernel
theorem dX9_leftOver_13 : decode cX9_leftOver 13 = .ok (.bipush 100, 2) := by decide +kernel
theorem dX9_leftOver_15 : decode cX9_leftOver 15 = .ok (.iload_n 1, 1) := by decide +kernel
theorem dX9_leftOver_16 : decode cX9_leftOver 16 = .ok (.imul, 1) := by decide +kernel
theorem dX9_leftOver_17 : decode cX9_leftOver 17 = .ok (.istore 4, 2) := by decide +kernel
theorem dX9_leftOver_19 : decode cX9_leftOver 19 = .ok (.iload 4, 2) := by decide +kernel
theorem dX9_leftOver_21 : decode cX9_leftOver 21 = .ok (.aload_n 0, 1) := by decide +kernel
theorem dX9_leftOver_22 : decode cX9_leftOver 22 = .ok (.iload_n 1, 1) := by decide +kernel
theorem dX9_leftOver_23 : decode cX9_leftOver 23 = .ok (.invokevirtual 133, 3) := by decide +kernel
theorem dX9_leftOver_26 : decode cX9_leftOver 26 = .ok (.if_icmp .ge 72, 3) := by decide +kernel
theorem dX9_leftOver_29 : decode cX9_leftOver 29 = .ok (.iload 4, 2) := by decide +kernel
theorem dX9_leftOver_31 : decode cX9_leftOver 31 = .ok (.iconst 1, 1) := by decide +kernel
theorem dX9_leftOver_32 : decode cX9_leftOver 32 = .ok (.iadd, 1) := by decide +kernel
theorem dX9_leftOver_33 : decode cX9_leftOver 33 = .ok (.istore 5, 2) := by decide +kernel
theorem dX9_leftOver_35 : decode cX9_leftOver 35 = .ok (.iload 5, 2) := by decide +kernel
theorem dX9_leftOver_37 : decode cX9_leftOver 37 = .ok (.aload_n 0, 1) := by decide +kernel
theorem dX9_leftOver_38 : decode cX9_leftOver 38 = .ok (.iload_n 1, 1) := by decide +kernel
theorem dX9_leftOver_39 : decode cX9_leftOver 39 = .ok (.invokevirtual 133, 3) := by decide +kernel
theorem dX9_leftOver_42 : decode cX9_leftOver 42 = .ok (.if_icmp .ge 50, 3) := by decide +kernel
theorem dX9_leftOver_45 : decode cX9_leftOver 45 = .ok (.aload_n 0, 1) := by decide +kernel
theorem dX9_leftOver_46 : decode cX9_leftOver 46 = .ok (.iload_n 1, 1) := by decide +kernel
theorem dX9_leftOver_47 : decode cX9_leftOver 47 = .ok (.iload 4, 2) := by decide +kernel
theorem dX9_leftOver_49 : decode cX9_leftOver 49 = .ok (.invokevirtual 128, 3) := by decide +kernel
theorem dX9_leftOver_52 : decode cX9_leftOver 52 = .ok (.aload_n 0, 1) := by decide +kernel
theorem dX9_leftOver_53 : decode cX9_leftOver 53 = .ok (.iload_n 1, 1) := by decide +kernel
theorem dX9_leftOver_54 : decode cX9_leftOver 54 = .ok (.iload 5, 2) := by decide +kernel
theorem dX9_leftOver_56 : decode cX9_leftOver 56 = .ok (.invokevirtual 128, 3) := by decide +kernel
theorem dX9_leftOver_59 : decode cX9_leftOver 59 = .ok (.isub, 1) := by decide +kernel
theorem dX9_leftOver_60 : decode cX9_leftOver 60 = .ok (.i2l, 1) := by decide +kernel
theorem dX9_leftOver_61 : decode cX9_leftOver 61 = .ok (.lstore 6, 2) := by decide +kernel
theorem dX9_leftOver_63 : decode cX9_leftOver 63 = .ok (.lload_n 2, 1) := by decide +kernel
theorem dX9_leftOver_64 : decode cX9_leftOver 64 = .ok (.aload_n 0, 1) := by decide +kernel
theorem dX9_leftOver_65 : decode cX9_leftOver 65 = .ok (.iload 4, 2) := by decide +kernel
theorem dX9_leftOver_67 : decode cX9_leftOver 67 = .ok (.iload 5, 2) := by decide +kernel
theorem dX9_leftOver_69 : decode cX9_leftOver 69 = .ok (.invokevirtual 143, 3) := by decide +kernel
theorem dX9_leftOver_72 : decode cX9_leftOver 72 = .ok (.ifCond .eq 11, 3) := by decide +kernel
theorem dX9_leftOver_75 : decode cX9_leftOver 75 = .ok (.lload 6, 2) := by decide +kernel
theorem dX9_leftOver_77 : decode cX9_leftOver 77 = .ok (.lload 6, 2) := by decide +kernel
theorem dX9_leftOver_79 : decode cX9_leftOver 79 = .ok (.lmul, 1) := by decide +kernel
theorem dX9_leftOver_80 : decode cX9_leftOver 80 = .ok (.goto 4, 3) := by decide +kernel
theorem dX9_leftOver_83 : decode cX9_leftOver 83 = .ok (.lconst 0, 1) := by decide +kernel
theorem dX9_leftOver_84 : decode cX9_leftOver 84 = .ok (.ladd, 1) := by decide +kernel
theorem dX9_leftOver_85 : decode cX9_leftOver 85 = .ok (.lstore_n 2, 1) := by decide +kernel
theorem dX9_leftOver_86 : decode cX9_leftOver 86 = .ok (.iinc 5 1, 3) := by decide +kernel
theorem dX9_leftOver_89 : decode cX9_leftOver 89 = .ok (.goto (-54), 3) := by decide +kernel
theorem dX9_leftOver_92 : decode cX9_leftOver 92 = .ok (.iinc 4 1, 3) := by decide +kernel
theorem dX9_leftOver_95 : decode cX9_leftOver 95 = .ok (.goto (-76), 3) := by decide +kernel
theorem dX9_leftOver_98 : decode cX9_leftOver 98 = .ok (.lload_n 2, 1) := by decide +kernel
theorem dX9_leftOver_99 : decode cX9_leftOver 99 = .ok (.lreturn, 1) := by decide +kernel
theorem dX9_ofThree_0 : decode cX9_ofThree 0 = .ok (.lload_n 0, 1) := by decide +kernel
theorem dX9_ofThree_1 : decode cX9_ofThree 1 = .ok (.lload 8, 2) := by decide +kernel
theorem dX9_ofThree_3 : decode cX9_ofThree 3 = .ok (.lload 16, 2) := by decide +kernel
theorem dX9_ofThree_5 : decode cX9_ofThree 5 = .ok (.lmul, 1) := by decide +kernel
theorem dX9_ofThree_6 : decode cX9_ofThree 6 = .ok (.lload 10, 2) := by decide +kernel
theorem dX9_ofThree_8 : decode cX9_ofThree 8 = .ok (.lload 14, 2) := by decide +kernel
theorem dX9_ofThree_10 : decode cX9_ofThree 10 = .ok (.lmul, 1) := by decide +kernel
theorem dX9_ofThree_11 : decode cX9_ofThree 11 = .ok (.lsub, 1) := by decide +kernel
theorem dX9_ofThree_12 : decode cX9_ofThree 12 = .ok (.lmul, 1) := by decide +kernel
theorem dX9_ofThree_13 : decode cX9_ofThree 13 = .ok (.lload_n 2, 1) := by decide +kernel
theorem dX9_ofThree_14 : decode cX9_ofThree 14 = .ok (.lload 6, 2) := by decide +kernel
theorem dX9_ofThree_16 : decode cX9_ofThree 16 = .ok (.lload 16, 2) := by decide +kernel
theorem dX9_ofThree_18 : decode cX9_ofThree 18 = .ok (.lmul, 1) := by decide +kernel
theorem dX9_ofThree_19 : decode cX9_ofThree 19 = .ok (.lload 10, 2) := by decide +kernel
theorem dX9_ofThree_21 : decode cX9_ofThree 21 = .ok (.lload 12, 2) := by decide +kernel
theorem dX9_ofThree_23 : decode cX9_ofThree 23 = .ok (.lmul, 1) := by decide +kernel
theorem dX9_ofThree_24 : decode cX9_ofThree 24 = .ok (.lsub, 1) := by decide +kernel
theorem dX9_ofThree_25 : decode cX9_ofThree 25 = .ok (.lmul, 1) := by decide +kernel
theorem dX9_ofThree_26 : decode cX9_ofThree 26 = .ok (.lsub, 1) := by decide +kernel
theorem dX9_ofThree_27 : decode cX9_ofThree 27 = .ok (.lload 4, 2) := by decide +kernel
theorem dX9_ofThree_29 : decode cX9_ofThree 29 = .ok (.lload 6, 2) := by decide +kernel
theorem dX9_ofThree_31 : decode cX9_ofThree 31 = .ok (.lload 14, 2) := by decide +kernel
theorem dX9_ofThree_33 : decode cX9_ofThree 33 = .ok (.lmul, 1) := by decide +kernel
theorem dX9_ofThree_34 : decode cX9_ofThree 34 = .ok (.lload 8, 2) := by decide +kernel
theorem dX9_ofThree_36 : decode cX9_ofThree 36 = .ok (.lload 12, 2) := by decide +kernel
theorem dX9_ofThree_38 : decode cX9_ofThree 38 = .ok (.lmul, 1) := by decide +kernel
theorem dX9_ofThree_39 : decode cX9_ofThree 39 = .ok (.lsub, 1) := by decide +kernel
theorem dX9_ofThree_40 : decode cX9_ofThree 40 = .ok (.lmul, 1) := by decide +kernel
theorem dX9_ofThree_41 : decode cX9_ofThree 41 = .ok (.ladd, 1) := by decide +kernel
theorem dX9_ofThree_42 : decode cX9_ofThree 42 = .ok (.lreturn, 1) := by decide +kernel
theorem dX9_hasStrip_0 : decode cX9_hasStrip 0 = .ok (.iconst 0, 1) := by decide +kernel
theorem dX9_hasStrip_1 : decode cX9_hasStrip 1 = .ok (.istore_n 3, 1) := by decide +kernel
theorem dX9_hasStrip_2 : decode cX9_hasStrip 2 = .ok (.bipush 100, 2) := by decide +kernel
theorem dX9_hasStrip_4 : decode cX9_hasStrip 4 = .ok (.iload_n 1, 1) := by decide +kernel
theorem dX9_hasStrip_5 : decode cX9_hasStrip 5 = .ok (.imul, 1) := by decide +kernel
theorem dX9_hasStrip_6 : decode cX9_hasStrip 6 = .ok (.istore 4, 2) := by decide +kernel
theorem dX9_hasStrip_8 : decode cX9_hasStrip 8 = .ok (.iload 4, 2) := by decide +kernel
theorem dX9_hasStrip_10 : decode cX9_hasStrip 10 = .ok (.aload_n 0, 1) := by decide +kernel
theorem dX9_hasStrip_11 : decode cX9_hasStrip 11 = .ok (.iload_n 1, 1) := by decide +kernel
theorem dX9_hasStrip_12 : decode cX9_hasStrip 12 = .ok (.invokevirtual 133, 3) := by decide +kernel
theorem dX9_hasStrip_15 : decode cX9_hasStrip 15 = .ok (.if_icmp .ge 30, 3) := by decide +kernel
theorem dX9_hasStrip_18 : decode cX9_hasStrip 18 = .ok (.iload_n 3, 1) := by decide +kernel
theorem dX9_hasStrip_19 : decode cX9_hasStrip 19 = .ok (.ifCond .ne 14, 3) := by decide +kernel
theorem dX9_hasStrip_22 : decode cX9_hasStrip 22 = .ok (.aload_n 0, 1) := by decide +kernel
theorem dX9_hasStrip_23 : decode cX9_hasStrip 23 = .ok (.getfield 34, 3) := by decide +kernel
theorem dX9_hasStrip_26 : decode cX9_hasStrip 26 = .ok (.iload 4, 2) := by decide +kernel
theorem dX9_hasStrip_28 : decode cX9_hasStrip 28 = .ok (.iaload, 1) := by decide +kernel
theorem dX9_hasStrip_29 : decode cX9_hasStrip 29 = .ok (.iload_n 2, 1) := by decide +kernel
theorem dX9_hasStrip_30 : decode cX9_hasStrip 30 = .ok (.if_icmp .ne 7, 3) := by decide +kernel
theorem dX9_hasStrip_33 : decode cX9_hasStrip 33 = .ok (.iconst 1, 1) := by decide +kernel
theorem dX9_hasStrip_34 : decode cX9_hasStrip 34 = .ok (.goto 4, 3) := by decide +kernel
theorem dX9_hasStrip_37 : decode cX9_hasStrip 37 = .ok (.iconst 0, 1) := by decide +kernel
theorem dX9_hasStrip_38 : decode cX9_hasStrip 38 = .ok (.istore_n 3, 1) := by decide +kernel
theorem dX9_hasStrip_39 : decode cX9_hasStrip 39 = .ok (.iinc 4 1, 3) := by decide +kernel
theorem dX9_hasStrip_42 : decode cX9_hasStrip 42 = .ok (.goto (-34), 3) := by decide +kernel
theorem dX9_hasStrip_45 : decode cX9_hasStrip 45 = .ok (.iload_n 3, 1) := by decide +kernel
theorem dX9_hasStrip_46 : decode cX9_hasStrip 46 = .ok (.ireturn, 1) := by decide +kernel
theorem dX9_findSums_0 : decode cX9_findSums 0 = .ok (.iconst 0, 1) := by decide +kernel
theorem dX9_findSums_1 : decode cX9_findSums 1 = .ok (.istore_n 2, 1) := by decide +kernel
theorem dX9_findSums_2 : decode cX9_findSums 2 = .ok (.iload_n 2, 1) := by decide +kernel
theorem dX9_findSums_3 : decode cX9_findSums 3 = .ok (.bipush 9, 2) := by decide +kernel
theorem dX9_findSums_5 : decode cX9_findSums 5 = .ok (.if_icmp .ge 16, 3) := by decide +kernel
theorem dX9_findSums_8 : decode cX9_findSums 8 = .ok (.aload_n 0, 1) := by decide +kernel
theorem dX9_findSums_9 : decode cX9_findSums 9 = .ok (.getfield 53, 3) := by decide +kernel
theorem dX9_findSums_12 : decode cX9_findSums 12 = .ok (.iload_n 2, 1) := by decide +kernel
theorem dX9_findSums_13 : decode cX9_findSums 13 = .ok (.lconst 0, 1) := by decide +kernel
theorem dX9_findSums_14 : decode cX9_findSums 14 = .ok (.lastore, 1) := by decide +kernel
theorem dX9_findSums_15 : decode cX9_findSums 15 = .ok (.iinc 2 1, 3) := by decide +kernel
theorem dX9_findSums_18 : decode cX9_findSums 18 = .ok (.goto (-16), 3) := by decide +kernel
theorem dX9_findSums_21 : decode cX9_findSums 21 = .ok (.iconst 0, 1) := by decide +kernel
theorem dX9_findSums_22 : decode cX9_findSums 22 = .ok (.istore_n 2, 1) := by decide +kernel
theorem dX9_findSums_23 : decode cX9_findSums 23 = .ok (.iload_n 2, 1) := by decide +kernel
theorem dX9_findSums_24 : decode cX9_findSums 24 = .ok (.iconst 3, 1) := by decide +kernel
theorem dX9_findSums_25 : decode cX9_findSums 25 = .ok (.if_icmp .ge 40, 3) := by decide +kernel
theorem dX9_findSums_28 : decode cX9_findSums 28 = .ok (.aload_n 0, 1) := by decide +kernel
theorem dX9_findSums_29 : decode cX9_findSums 29 = .ok (.getfield 57, 3) := by decide +kernel
theorem dX9_findSums_32 : decode cX9_findSums 32 = .ok (.iload_n 2, 1) := by decide +kernel
theorem dX9_findSums_33 : decode cX9_findSums 33 = .ok (.lconst 0, 1) := by decide +kernel
theorem dX9_findSums_34 : decode cX9_findSums 34 = .ok (.lastore, 1) := by decide +kernel
theorem dX9_findSums_35 : decode cX9_findSums 35 = .ok (.aload_n 0, 1) := by decide +kernel
theorem dX9_findSums_36 : decode cX9_findSums 36 = .ok (.getfield 53, 3) := by decide +kernel
theorem dX9_findSums_39 : decode cX9_findSums 39 = .ok (.iconst 4, 1) := by decide +kernel
theorem dX9_findSums_40 : decode cX9_findSums 40 = .ok (.iload_n 2, 1) := by decide +kernel
theorem dX9_findSums_41 : decode cX9_findSums 41 = .ok (.imul, 1) := by decide +kernel
theorem dX9_findSums_42 : decode cX9_findSums 42 = .ok (.aload_n 0, 1) := by decide +kernel
theorem dX9_findSums_43 : decode cX9_findSums 43 = .ok (.iload_n 1, 1) := by decide +kernel
theorem dX9_findSums_44 : decode cX9_findSums 44 = .ok (.iload_n 2, 1) := by decide +kernel
theorem dX9_findSums_45 : decode cX9_findSums 45 = .ok (.iconst 1, 1) := by decide +kernel
theorem dX9_findSums_46 : decode cX9_findSums 46 = .ok (.iadd, 1) := by decide +kernel
theorem dX9_findSums_47 : decode cX9_findSums 47 = .ok (.invokevirtual 146, 3) := by decide +kernel
theorem dX9_findSums_50 : decode cX9_findSums 50 = .ok (.ifCond .eq 7, 3) := by decide +kernel
theorem dX9_findSums_53 : decode cX9_findSums 53 = .ok (.lconst 0, 1) := by decide +kernel
theorem dX9_findSums_54 : decode cX9_findSums 54 = .ok (.goto 4, 3) := by decide +kernel
theorem dX9_findSums_57 : decode cX9_findSums 57 = .ok (.lconst 1, 1) := by decide +kernel
theorem dX9_findSums_58 : decode cX9_findSums 58 = .ok (.lastore, 1) := by decide +kernel
theorem dX9_findSums_59 : decode cX9_findSums 59 = .ok (.iinc 2 1, 3) := by decide +kernel
theorem dX9_findSums_62 : decode cX9_findSums 62 = .ok (.goto (-39), 3) := by decide +kernel
theorem dX9_findSums_65 : decode cX9_findSums 65 = .ok (.bipush 100, 2) := by decide +kernel
theorem dX9_findSums_67 : decode cX9_findSums 67 = .ok (.iload_n 1, 1) := by decide +kernel
theorem dX9_findSums_68 : decode cX9_findSums 68 = .ok (.imul, 1) := by decide +kernel
theorem dX9_findSums_69 : decode cX9_findSums 69 = .ok (.istore_n 2, 1) := by decide +kernel
theorem dX9_findSums_70 : decode cX9_findSums 70 = .ok (.iload_n 2, 1) := by decide +kernel
theorem dX9_findSums_71 : decode cX9_findSums 71 = .ok (.aload_n 0, 1) := by decide +kernel
theorem dX9_findSums_72 : decode cX9_findSums 72 = .ok (.iload_n 1, 1) := by decide +kernel
theorem dX9_findSums_73 : decode cX9_findSums 73 = .ok (.invokevirtual 133, 3) := by decide +kernel
theorem dX9_findSums_76 : decode cX9_findSums 76 = .ok (.if_icmp .ge 125, 3) := by decide +kernel
theorem dX9_findSums_79 : decode cX9_findSums 79 = .ok (.bipush 100, 2) := by decide +kernel
theorem dX9_findSums_81 : decode cX9_findSums 81 = .ok (.iload_n 1, 1) := by decide +kernel
theorem dX9_findSums_82 : decode cX9_findSums 82 = .ok (.imul, 1) := by decide +kernel
theorem dX9_findSums_83 : decode cX9_findSums 83 = .ok (.istore_n 3, 1) := by decide +kernel
theorem dX9_findSums_84 : decode cX9_findSums 84 = .ok (.iload_n 3, 1) := by decide +kernel
theorem dX9_findSums_85 : decode cX9_findSums 85 = .ok (.aload_n 0, 1) := by decide +kernel
theorem dX9_findSums_86 : decode cX9_findSums 86 = .ok (.iload_n 1, 1) := by decide +kernel
theorem dX9_findSums_87 : decode cX9_findSums 87 = .ok (.invokevirtual 133, 3) := by decide +kernel
theorem dX9_findSums_90 : decode cX9_findSums 90 = .ok (.if_icmp .ge 105, 3) := by decide +kernel
theorem dX9_findSums_93 : decode cX9_findSums 93 = .ok (.aload_n 0, 1) := by decide +kernel
theorem dX9_findSums_94 : decode cX9_findSums 94 = .ok (.iload_n 2, 1) := by decide +kernel
theorem dX9_findSums_95 : decode cX9_findSums 95 = .ok (.iload_n 3, 1) := by decide +kernel
theorem dX9_findSums_96 : decode cX9_findSums 96 = .ok (.invokevirtual 143, 3) := by decide +kernel
theorem dX9_findSums_99 : decode cX9_findSums 99 = .ok (.ifCond .eq 90, 3) := by decide +kernel
theorem dX9_findSums_102 : decode cX9_findSums 102 = .ok (.aload_n 0, 1) := by decide +kernel
theorem dX9_findSums_103 : decode cX9_findSums 103 = .ok (.getfield 34, 3) := by decide +kernel
theorem dX9_findSums_106 : decode cX9_findSums 106 = .ok (.iload_n 2, 1) := by decide +kernel
theorem dX9_findSums_107 : decode cX9_findSums 107 = .ok (.iaload, 1) := by decide +kernel
theorem dX9_findSums_108 : decode cX9_findSums 108 = .ok (.ifCond .le 81, 3) := by decide +kernel
theorem dX9_findSums_111 : decode cX9_findSums 111 = .ok (.aload_n 0, 1) := by decide +kernel
theorem dX9_findSums_112 : decode cX9_findSums 112 = .ok (.getfield 34, 3) := by decide +kernel
theorem dX9_findSums_115 : decode cX9_findSums 115 = .ok (.iload_n 2, 1) := by decide +kernel
theorem dX9_findSums_116 : decode cX9_findSums 116 = .ok (.iaload, 1) := by decide +kernel
theorem dX9_findSums_117 : decode cX9_findSums 117 = .ok (.iconst 1, 1) := by decide +kernel
theorem dX9_findSums_118 : decode cX9_findSums 118 = .ok (.isub, 1) := by decide +kernel
theorem dX9_findSums_119 : decode cX9_findSums 119 = .ok (.istore 4, 2) := by decide +kernel
theorem dX9_findSums_121 : decode cX9_findSums 121 = .ok (.aload_n 0, 1) := by decide +kernel
theorem dX9_findSums_122 : decode cX9_findSums 122 = .ok (.getfield 53, 3) := by decide +kernel
theorem dX9_findSums_125 : decode cX9_findSums 125 = .ok (.iconst 4, 1) := by decide +kernel
theorem dX9_findSums_126 : decode cX9_findSums 126 = .ok (.iload 4, 2) := by decide +kernel
theorem dX9_findSums_128 : decode cX9_findSums 128 = .ok (.imul, 1) := by decide +kernel
theorem dX9_findSums_129 : decode cX9_findSums 129 = .ok (.dup2, 1) := by decide +kernel
theorem dX9_findSums_130 : decode cX9_findSums 130 = .ok (.laload, 1) := by decide +kernel
theorem dX9_findSums_131 : decode cX9_findSums 131 = .ok (.lconst 1, 1) := by decide +kernel
theorem dX9_findSums_132 : decode cX9_findSums 132 = .ok (.ladd, 1) := by decide +kernel
theorem dX9_findSums_133 : decode cX9_findSums 133 = .ok (.lastore, 1) := by decide +kernel
theorem dX9_findSums_134 : decode cX9_findSums 134 = .ok (.aload_n 0, 1) := by decide +kernel
theorem dX9_findSums_135 : decode cX9_findSums 135 = .ok (.getfield 57, 3) := by decide +kernel
theorem dX9_findSums_138 : decode cX9_findSums 138 = .ok (.iload 4, 2) := by decide +kernel
theorem dX9_findSums_140 : decode cX9_findSums 140 = .ok (.dup2, 1) := by decide +kernel
theorem dX9_findSums_141 : decode cX9_findSums 141 = .ok (.laload, 1) := by decide +kernel
theorem dX9_findSums_142 : decode cX9_findSums 142 = .ok (.aload_n 0, 1) := by decide +kernel
theorem dX9_findSums_143 : decode cX9_findSums 143 = .ok (.getfield 31, 3) := by decide +kernel
theorem dX9_findSums_146 : decode cX9_findSums 146 = .ok (.iload_n 3, 1) := by decide +kernel
theorem dX9_findSums_147 : decode cX9_findSums 147 = .ok (.iaload, 1) := by decide +kernel
theorem dX9_findSums_148 : decode cX9_findSums 148 = .ok (.aload_n 0, 1) := by decide +kernel
theorem dX9_findSums_149 : decode cX9_findSums 149 = .ok (.getfield 31, 3) := by decide +kernel
theorem dX9_findSums_152 : decode cX9_findSums 152 = .ok (.iload_n 2, 1) := by decide +kernel
theorem dX9_findSums_153 : decode cX9_findSums 153 = .ok (.iaload, 1) := by decide +kernel
theorem dX9_findSums_154 : decode cX9_findSums 154 = .ok (.isub, 1) := by decide +kernel
theorem dX9_findSums_155 : decode cX9_findSums 155 = .ok (.i2l, 1) := by decide +kernel
theorem dX9_findSums_156 : decode cX9_findSums 156 = .ok (.ladd, 1) := by decide +kernel
theorem dX9_findSums_157 : decode cX9_findSums 157 = .ok (.lastore, 1) := by decide +kernel
theorem dX9_findSums_158 : decode cX9_findSums 158 = .ok (.aload_n 0, 1) := by decide +kernel
theorem dX9_findSums_159 : decode cX9_findSums 159 = .ok (.getfield 34, 3) := by decide +kernel
theorem dX9_findSums_162 : decode cX9_findSums 162 = .ok (.iload_n 3, 1) := by decide +kernel
theorem dX9_findSums_163 : decode cX9_findSums 163 = .ok (.iaload, 1) := by decide +kernel
theorem dX9_findSums_164 : decode cX9_findSums 164 = .ok (.ifCond .le 25, 3) := by decide +kernel
theorem dX9_findSums_167 : decode cX9_findSums 167 = .ok (.aload_n 0, 1) := by decide +kernel
theorem dX9_findSums_168 : decode cX9_findSums 168 = .ok (.getfield 53, 3) := by decide +kernel
theorem dX9_findSums_171 : decode cX9_findSums 171 = .ok (.iconst 3, 1) := by decide +kernel
theorem dX9_findSums_172 : decode cX9_findSums 172 = .ok (.iload 4, 2) := by decide +kernel
theorem dX9_findSums_174 : decode cX9_findSums 174 = .ok (.imul, 1) := by decide +kernel
theorem dX9_findSums_175 : decode cX9_findSums 175 = .ok (.aload_n 0, 1) := by decide +kernel
theorem dX9_findSums_176 : decode cX9_findSums 176 = .ok (.getfield 34, 3) := by decide +kernel
theorem dX9_findSums_179 : decode cX9_findSums 179 = .ok (.iload_n 3, 1) := by decide +kernel
theorem dX9_findSums_180 : decode cX9_findSums 180 = .ok (.iaload, 1) := by decide +kernel
theorem dX9_findSums_181 : decode cX9_findSums 181 = .ok (.iadd, 1) := by decide +kernel
theorem dX9_findSums_182 : decode cX9_findSums 182 = .ok (.iconst 1, 1) := by decide +kernel
theorem dX9_findSums_183 : decode cX9_findSums 183 = .ok (.isub, 1) := by decide +kernel
theorem dX9_findSums_184 : decode cX9_findSums 184 = .ok (.dup2, 1) := by decide +kernel
theorem dX9_findSums_185 : decode cX9_findSums 185 = .ok (.laload, 1) := by decide +kernel
theorem dX9_findSums_186 : decode cX9_findSums 186 = .ok (.lconst 1, 1) := by decide +kernel
theorem dX9_findSums_187 : decode cX9_findSums 187 = .ok (.lsub, 1) := by decide +kernel
theorem dX9_findSums_188 : decode cX9_findSums 188 = .ok (.lastore, 1) := by decide +kernel
theorem dX9_findSums_189 : decode cX9_findSums 189 = .ok (.iinc 3 1, 3) := by decide +kernel
theorem dX9_findSums_192 : decode cX9_findSums 192 = .ok (.goto (-108), 3) := by decide +kernel
theorem dX9_findSums_195 : decode cX9_findSums 195 = .ok (.iinc 2 1, 3) := by decide +kernel
theorem dX9_findSums_198 : decode cX9_findSums 198 = .ok (.goto (-128), 3) := by decide +kernel
theorem dX9_findSums_201 : decode cX9_findSums 201 = .ok (.return_, 1) := by decide +kernel
theorem dX9_down_0 : decode cX9_down 0 = .ok (.lload_n 0, 1) := by decide +kernel
theorem dX9_down_1 : decode cX9_down 1 = .ok (.lload_n 2, 1) := by decide +kernel
theorem dX9_down_2 : decode cX9_down 2 = .ok (.ldiv, 1) := by decide +kernel
theorem dX9_down_3 : decode cX9_down 3 = .ok (.lstore 4, 2) := by decide +kernel
theorem dX9_down_5 : decode cX9_down 5 = .ok (.lload_n 0, 1) := by decide +kernel
theorem dX9_down_6 : decode cX9_down 6 = .ok (.lload_n 2, 1) := by decide +kernel
theorem dX9_down_7 : decode cX9_down 7 = .ok (.lrem, 1) := by decide +kernel
theorem dX9_down_8 : decode cX9_down 8 = .ok (.lconst 0, 1) := by decide +kernel
theorem dX9_down_9 : decode cX9_down 9 = .ok (.lcmp, 1) := by decide +kernel
theorem dX9_down_10 : decode cX9_down 10 = .ok (.ifCond .eq 35, 3) := by decide +kernel
theorem dX9_down_13 : decode cX9_down 13 = .ok (.lload_n 0, 1) := by decide +kernel
theorem dX9_down_14 : decode cX9_down 14 = .ok (.lconst 0, 1) := by decide +kernel
theorem dX9_down_15 : decode cX9_down 15 = .ok (.lcmp, 1) := by decide +kernel
theorem dX9_down_16 : decode cX9_down 16 = .ok (.ifCond .ge 7, 3) := by decide +kernel
theorem dX9_down_19 : decode cX9_down 19 = .ok (.iconst 1, 1) := by decide +kernel
theorem dX9_down_20 : decode cX9_down 20 = .ok (.goto 4, 3) := by decide +kernel
theorem dX9_down_23 : decode cX9_down 23 = .ok (.iconst 0, 1) := by decide +kernel
theorem dX9_down_24 : decode cX9_down 24 = .ok (.lload_n 2, 1) := by decide +kernel
theorem dX9_down_25 : decode cX9_down 25 = .ok (.lconst 0, 1) := by decide +kernel
theorem dX9_down_26 : decode cX9_down 26 = .ok (.lcmp, 1) := by decide +kernel
theorem dX9_down_27 : decode cX9_down 27 = .ok (.ifCond .ge 7, 3) := by decide +kernel
theorem dX9_down_30 : decode cX9_down 30 = .ok (.iconst 1, 1) := by decide +kernel
theorem dX9_down_31 : decode cX9_down 31 = .ok (.goto 4, 3) := by decide +kernel
theorem dX9_down_34 : decode cX9_down 34 = .ok (.iconst 0, 1) := by decide +kernel
theorem dX9_down_35 : decode cX9_down 35 = .ok (.if_icmp .eq 10, 3) := by decide +kernel
theorem dX9_down_38 : decode cX9_down 38 = .ok (.lload 4, 2) := by decide +kernel
theorem dX9_down_40 : decode cX9_down 40 = .ok (.lconst 1, 1) := by decide +kernel
theorem dX9_down_41 : decode cX9_down 41 = .ok (.lsub, 1) := by decide +kernel
theorem dX9_down_42 : decode cX9_down 42 = .ok (.goto 5, 3) := by decide +kernel
theorem dX9_down_45 : decode cX9_down 45 = .ok (.lload 4, 2) := by decide +kernel
theorem dX9_down_47 : decode cX9_down 47 = .ok (.lreturn, 1) := by decide +kernel
theorem dX9_fit_0 : decode cX9_fit 0 = .ok (.iload_n 1, 1) := by decide +kernel
theorem dX9_fit_1 : decode cX9_fit 1 = .ok (.invokestatic 116, 3) := by decide +kernel
theorem dX9_fit_4 : decode cX9_fit 4 = .ok (.ifCond .ne 5, 3) := by decide +kernel
theorem dX9_fit_7 : decode cX9_fit 7 = .ok (.iconst (-1), 1) := by decide +kernel
theorem dX9_fit_8 : decode cX9_fit 8 = .ok (.ireturn, 1) := by decide +kernel
theorem dX9_fit_9 : decode cX9_fit 9 = .ok (.aload_n 0, 1) := by decide +kernel
theorem dX9_fit_10 : decode cX9_fit 10 = .ok (.iload_n 1, 1) := by decide +kernel
theorem dX9_fit_11 : decode cX9_fit 11 = .ok (.iconst 0, 1) := by decide +kernel
theorem dX9_fit_12 : decode cX9_fit 12 = .ok (.invokevirtual 146, 3) := by decide +kernel
theorem dX9_fit_15 : decode cX9_fit 15 = .ok (.ifCond .ne 6, 3) := by decide +kernel
theorem dX9_fit_18 : decode cX9_fit 18 = .ok (.bipush (-2), 2) := by decide +kernel
theorem dX9_fit_20 : decode cX9_fit 20 = .ok (.ireturn, 1) := by decide +kernel
theorem dX9_fit_21 : decode cX9_fit 21 = .ok (.aload_n 0, 1) := by decide +kernel
theorem dX9_fit_22 : decode cX9_fit 22 = .ok (.iload_n 1, 1) := by decide +kernel
theorem dX9_fit_23 : decode cX9_fit 23 = .ok (.invokevirtual 149, 3) := by decide +kernel
theorem dX9_fit_26 : decode cX9_fit 26 = .ok (.aload_n 0, 1) := by decide +kernel
theorem dX9_fit_27 : decode cX9_fit 27 = .ok (.getfield 53, 3) := by decide +kernel
theorem dX9_fit_30 : decode cX9_fit 30 = .ok (.iconst 0, 1) := by decide +kernel
theorem dX9_fit_31 : decode cX9_fit 31 = .ok (.laload, 1) := by decide +kernel
theorem dX9_fit_32 : decode cX9_fit 32 = .ok (.aload_n 0, 1) := by decide +kernel
theorem dX9_fit_33 : decode cX9_fit 33 = .ok (.getfield 53, 3) := by decide +kernel
theorem dX9_fit_36 : decode cX9_fit 36 = .ok (.iconst 1, 1) := by decide +kernel
theorem dX9_fit_37 : decode cX9_fit 37 = .ok (.laload, 1) := by decide +kernel
theorem dX9_fit_38 : decode cX9_fit 38 = .ok (.aload_n 0, 1) := by decide +kernel
theorem dX9_fit_39 : decode cX9_fit 39 = .ok (.getfield 53, 3) := by decide +kernel
theorem dX9_fit_42 : decode cX9_fit 42 = .ok (.iconst 2, 1) := by decide +kernel
theorem dX9_fit_43 : decode cX9_fit 43 = .ok (.laload, 1) := by decide +kernel
theorem dX9_fit_44 : decode cX9_fit 44 = .ok (.aload_n 0, 1) := by decide +kernel
theorem dX9_fit_45 : decode cX9_fit 45 = .ok (.getfield 53, 3) := by decide +kernel
theorem dX9_fit_48 : decode cX9_fit 48 = .ok (.iconst 3, 1) := by decide +kernel
theorem dX9_fit_49 : decode cX9_fit 49 = .ok (.laload, 1) := by decide +kernel
theorem dX9_fit_50 : decode cX9_fit 50 = .ok (.aload_n 0, 1) := by decide +kernel
theorem dX9_fit_51 : decode cX9_fit 51 = .ok (.getfield 53, 3) := by decide +kernel
theorem dX9_fit_54 : decode cX9_fit 54 = .ok (.iconst 4, 1) := by decide +kernel
theorem dX9_fit_55 : decode cX9_fit 55 = .ok (.laload, 1) := by decide +kernel
theorem dX9_fit_56 : decode cX9_fit 56 = .ok (.aload_n 0, 1) := by decide +kernel
theorem dX9_fit_57 : decode cX9_fit 57 = .ok (.getfield 53, 3) := by decide +kernel
theorem dX9_fit_60 : decode cX9_fit 60 = .ok (.iconst 5, 1) := by decide +kernel
theorem dX9_fit_61 : decode cX9_fit 61 = .ok (.laload, 1) := by decide +kernel
theorem dX9_fit_62 : decode cX9_fit 62 = .ok (.aload_n 0, 1) := by decide +kernel
theorem dX9_fit_63 : decode cX9_fit 63 = .ok (.getfield 53, 3) := by decide +kernel
theorem dX9_fit_66 : decode cX9_fit 66 = .ok (.bipush 6, 2) := by decide +kernel
theorem dX9_fit_68 : decode cX9_fit 68 = .ok (.laload, 1) := by decide +kernel
theorem dX9_fit_69 : decode cX9_fit 69 = .ok (.aload_n 0, 1) := by decide +kernel
theorem dX9_fit_70 : decode cX9_fit 70 = .ok (.getfield 53, 3) := by decide +kernel
theorem dX9_fit_73 : decode cX9_fit 73 = .ok (.bipush 7, 2) := by decide +kernel
theorem dX9_fit_75 : decode cX9_fit 75 = .ok (.laload, 1) := by decide +kernel
theorem dX9_fit_76 : decode cX9_fit 76 = .ok (.aload_n 0, 1) := by decide +kernel
theorem dX9_fit_77 : decode cX9_fit 77 = .ok (.getfield 53, 3) := by decide +kernel
theorem dX9_fit_80 : decode cX9_fit 80 = .ok (.bipush 8, 2) := by decide +kernel
theorem dX9_fit_82 : decode cX9_fit 82 = .ok (.laload, 1) := by decide +kernel
theorem dX9_fit_83 : decode cX9_fit 83 = .ok (.invokestatic 153, 3) := by decide +kernel
theorem dX9_fit_86 : decode cX9_fit 86 = .ok (.lstore_n 2, 1) := by decide +kernel
theorem dX9_fit_87 : decode cX9_fit 87 = .ok (.lload_n 2, 1) := by decide +kernel
theorem dX9_fit_88 : decode cX9_fit 88 = .ok (.lconst 0, 1) := by decide +kernel
theorem dX9_fit_89 : decode cX9_fit 89 = .ok (.lcmp, 1) := by decide +kernel
theorem dX9_fit_90 : decode cX9_fit 90 = .ok (.ifCond .ne 6, 3) := by decide +kernel
theorem dX9_fit_93 : decode cX9_fit 93 = .ok (.bipush (-2), 2) := by decide +kernel
theorem dX9_fit_95 : decode cX9_fit 95 = .ok (.ireturn, 1) := by decide +kernel
theorem dX9_fit_96 : decode cX9_fit 96 = .ok (.aload_n 0, 1) := by decide +kernel
theorem dX9_fit_97 : decode cX9_fit 97 = .ok (.getfield 53, 3) := by decide +kernel
theorem dX9_fit_100 : decode cX9_fit 100 = .ok (.astore 4, 2) := by decide +kernel
theorem dX9_fit_102 : decode cX9_fit 102 = .ok (.aload_n 0, 1) := by decide +kernel
theorem dX9_fit_103 : decode cX9_fit 103 = .ok (.getfield 57, 3) := by decide +kernel
theorem dX9_fit_106 : decode cX9_fit 106 = .ok (.astore 5, 2) := by decide +kernel
theorem dX9_fit_108 : decode cX9_fit 108 = .ok (.iconst 0, 1) := by decide +kernel
theorem dX9_fit_109 : decode cX9_fit 109 = .ok (.istore 6, 2) := by decide +kernel
theorem dX9_fit_111 : decode cX9_fit 111 = .ok (.iload 6, 2) := by decide +kernel
theorem dX9_fit_113 : decode cX9_fit 113 = .ok (.iconst 3, 1) := by decide +kernel
theorem dX9_fit_114 : decode cX9_fit 114 = .ok (.if_icmp .ge 196, 3) := by decide +kernel
theorem dX9_fit_117 : decode cX9_fit 117 = .ok (.iload 6, 2) := by decide +kernel
theorem dX9_fit_119 : decode cX9_fit 119 = .ok (.ifCond .ne 47, 3) := by decide +kernel
theorem dX9_fit_122 : decode cX9_fit 122 = .ok (.aload 5, 2) := by decide +kernel
theorem dX9_fit_124 : decode cX9_fit 124 = .ok (.iconst 0, 1) := by decide +kernel
theorem dX9_fit_125 : decode cX9_fit 125 = .ok (.laload, 1) := by decide +kernel
theorem dX9_fit_126 : decode cX9_fit 126 = .ok (.aload 4, 2) := by decide +kernel
theorem dX9_fit_128 : decode cX9_fit 128 = .ok (.iconst 1, 1) := by decide +kernel
theorem dX9_fit_129 : decode cX9_fit 129 = .ok (.laload, 1) := by decide +kernel
theorem dX9_fit_130 : decode cX9_fit 130 = .ok (.aload 4, 2) := by decide +kernel
theorem dX9_fit_132 : decode cX9_fit 132 = .ok (.iconst 2, 1) := by decide +kernel
theorem dX9_fit_133 : decode cX9_fit 133 = .ok (.laload, 1) := by decide +kernel
theorem dX9_fit_134 : decode cX9_fit 134 = .ok (.aload 5, 2) := by decide +kernel
theorem dX9_fit_136 : decode cX9_fit 136 = .ok (.iconst 1, 1) := by decide +kernel
theorem dX9_fit_137 : decode cX9_fit 137 = .ok (.laload, 1) := by decide +kernel
theorem dX9_fit_138 : decode cX9_fit 138 = .ok (.aload 4, 2) := by decide +kernel
theorem dX9_fit_140 : decode cX9_fit 140 = .ok (.iconst 4, 1) := by decide +kernel
theorem dX9_fit_141 : decode cX9_fit 141 = .ok (.laload, 1) := by decide +kernel
theorem dX9_fit_142 : decode cX9_fit 142 = .ok (.aload 4, 2) := by decide +kernel
theorem dX9_fit_144 : decode cX9_fit 144 = .ok (.iconst 5, 1) := by decide +kernel
theorem dX9_fit_145 : decode cX9_fit 145 = .ok (.laload, 1) := by decide +kernel
theorem dX9_fit_146 : decode cX9_fit 146 = .ok (.aload 5, 2) := by decide +kernel
theorem dX9_fit_148 : decode cX9_fit 148 = .ok (.iconst 2, 1) := by decide +kernel
theorem dX9_fit_149 : decode cX9_fit 149 = .ok (.laload, 1) := by decide +kernel
theorem dX9_fit_150 : decode cX9_fit 150 = .ok (.aload 4, 2) := by decide +kernel
theorem dX9_fit_152 : decode cX9_fit 152 = .ok (.bipush 7, 2) := by decide +kernel
theorem dX9_fit_154 : decode cX9_fit 154 = .ok (.laload, 1) := by decide +kernel
theorem dX9_fit_155 : decode cX9_fit 155 = .ok (.aload 4, 2) := by decide +kernel
theorem dX9_fit_157 : decode cX9_fit 157 = .ok (.bipush 8, 2) := by decide +kernel
theorem dX9_fit_159 : decode cX9_fit 159 = .ok (.laload, 1) := by decide +kernel
theorem dX9_fit_160 : decode cX9_fit 160 = .ok (.invokestatic 153, 3) := by decide +kernel
theorem dX9_fit_163 : decode cX9_fit 163 = .ok (.goto 94, 3) := by decide +kernel
theorem dX9_fit_166 : decode cX9_fit 166 = .ok (.iload 6, 2) := by decide +kernel
theorem dX9_fit_168 : decode cX9_fit 168 = .ok (.iconst 1, 1) := by decide +kernel
theorem dX9_fit_169 : decode cX9_fit 169 = .ok (.if_icmp .ne 47, 3) := by decide +kernel
theorem dX9_fit_172 : decode cX9_fit 172 = .ok (.aload 4, 2) := by decide +kernel
theorem dX9_fit_174 : decode cX9_fit 174 = .ok (.iconst 0, 1) := by decide +kernel
theorem dX9_fit_175 : decode cX9_fit 175 = .ok (.laload, 1) := by decide +kernel
theorem dX9_fit_176 : decode cX9_fit 176 = .ok (.aload 5, 2) := by decide +kernel
theorem dX9_fit_178 : decode cX9_fit 178 = .ok (.iconst 0, 1) := by decide +kernel
theorem dX9_fit_179 : decode cX9_fit 179 = .ok (.laload, 1) := by decide +kernel
theorem dX9_fit_180 : decode cX9_fit 180 = .ok (.aload 4, 2) := by decide +kernel
theorem dX9_fit_182 : decode cX9_fit 182 = .ok (.iconst 2, 1) := by decide +kernel
theorem dX9_fit_183 : decode cX9_fit 183 = .ok (.laload, 1) := by decide +kernel
theorem dX9_fit_184 : decode cX9_fit 184 = .ok (.aload 4, 2) := by decide +kernel
theorem dX9_fit_186 : decode cX9_fit 186 = .ok (.iconst 3, 1) := by decide +kernel
theorem dX9_fit_187 : decode cX9_fit 187 = .ok (.laload, 1) := by decide +kernel
theorem dX9_fit_188 : decode cX9_fit 188 = .ok (.aload 5, 2) := by decide +kernel
theorem dX9_fit_190 : decode cX9_fit 190 = .ok (.iconst 1, 1) := by decide +kernel
theorem dX9_fit_191 : decode cX9_fit 191 = .ok (.laload, 1) := by decide +kernel
theorem dX9_fit_192 : decode cX9_fit 192 = .ok (.aload 4, 2) := by decide +kernel
theorem dX9_fit_194 : decode cX9_fit 194 = .ok (.iconst 5, 1) := by decide +kernel
theorem dX9_fit_195 : decode cX9_fit 195 = .ok (.laload, 1) := by decide +kernel
theorem dX9_fit_196 : decode cX9_fit 196 = .ok (.aload 4, 2) := by decide +kernel
theorem dX9_fit_198 : decode cX9_fit 198 = .ok (.bipush 6, 2) := by decide +kernel
theorem dX9_fit_200 : decode cX9_fit 200 = .ok (.laload, 1) := by decide +kernel
theorem dX9_fit_201 : decode cX9_fit 201 = .ok (.aload 5, 2) := by decide +kernel
theorem dX9_fit_203 : decode cX9_fit 203 = .ok (.iconst 2, 1) := by decide +kernel
theorem dX9_fit_204 : decode cX9_fit 204 = .ok (.laload, 1) := by decide +kernel
theorem dX9_fit_205 : decode cX9_fit 205 = .ok (.aload 4, 2) := by decide +kernel
theorem dX9_fit_207 : decode cX9_fit 207 = .ok (.bipush 8, 2) := by decide +kernel
theorem dX9_fit_209 : decode cX9_fit 209 = .ok (.laload, 1) := by decide +kernel
theorem dX9_fit_210 : decode cX9_fit 210 = .ok (.invokestatic 153, 3) := by decide +kernel
theorem dX9_fit_213 : decode cX9_fit 213 = .ok (.goto 44, 3) := by decide +kernel
theorem dX9_fit_216 : decode cX9_fit 216 = .ok (.aload 4, 2) := by decide +kernel
theorem dX9_fit_218 : decode cX9_fit 218 = .ok (.iconst 0, 1) := by decide +kernel
theorem dX9_fit_219 : decode cX9_fit 219 = .ok (.laload, 1) := by decide +kernel
theorem dX9_fit_220 : decode cX9_fit 220 = .ok (.aload 4, 2) := by decide +kernel
theorem dX9_fit_222 : decode cX9_fit 222 = .ok (.iconst 1, 1) := by decide +kernel
theorem dX9_fit_223 : decode cX9_fit 223 = .ok (.laload, 1) := by decide +kernel
theorem dX9_fit_224 : decode cX9_fit 224 = .ok (.aload 5, 2) := by decide +kernel
theorem dX9_fit_226 : decode cX9_fit 226 = .ok (.iconst 0, 1) := by decide +kernel
theorem dX9_fit_227 : decode cX9_fit 227 = .ok (.laload, 1) := by decide +kernel
theorem dX9_fit_228 : decode cX9_fit 228 = .ok (.aload 4, 2) := by decide +kernel
theorem dX9_fit_230 : decode cX9_fit 230 = .ok (.iconst 3, 1) := by decide +kernel
theorem dX9_fit_231 : decode cX9_fit 231 = .ok (.laload, 1) := by decide +kernel
theorem dX9_fit_232 : decode cX9_fit 232 = .ok (.aload 4, 2) := by decide +kernel
theorem dX9_fit_234 : decode cX9_fit 234 = .ok (.iconst 4, 1) := by decide +kernel
theorem dX9_fit_235 : decode cX9_fit 235 = .ok (.laload, 1) := by decide +kernel
theorem dX9_fit_236 : decode cX9_fit 236 = .ok (.aload 5, 2) := by decide +kernel
theorem dX9_fit_238 : decode cX9_fit 238 = .ok (.iconst 1, 1) := by decide +kernel
theorem dX9_fit_239 : decode cX9_fit 239 = .ok (.laload, 1) := by decide +kernel
theorem dX9_fit_240 : decode cX9_fit 240 = .ok (.aload 4, 2) := by decide +kernel
theorem dX9_fit_242 : decode cX9_fit 242 = .ok (.bipush 6, 2) := by decide +kernel
theorem dX9_fit_244 : decode cX9_fit 244 = .ok (.laload, 1) := by decide +kernel
theorem dX9_fit_245 : decode cX9_fit 245 = .ok (.aload 4, 2) := by decide +kernel
theorem dX9_fit_247 : decode cX9_fit 247 = .ok (.bipush 7, 2) := by decide +kernel
theorem dX9_fit_249 : decode cX9_fit 249 = .ok (.laload, 1) := by decide +kernel
theorem dX9_fit_250 : decode cX9_fit 250 = .ok (.aload 5, 2) := by decide +kernel
theorem dX9_fit_252 : decode cX9_fit 252 = .ok (.iconst 2, 1) := by decide +kernel
theorem dX9_fit_253 : decode cX9_fit 253 = .ok (.laload, 1) := by decide +kernel
theorem dX9_fit_254 : decode cX9_fit 254 = .ok (.invokestatic 153, 3) := by decide +kernel
theorem dX9_fit_257 : decode cX9_fit 257 = .ok (.lstore 7, 2) := by decide +kernel
theorem dX9_fit_259 : decode cX9_fit 259 = .ok (.ldc2_w 93, 3) := by decide +kernel
theorem dX9_fit_262 : decode cX9_fit 262 = .ok (.lload 7, 2) := by decide +kernel
theorem dX9_fit_264 : decode cX9_fit 264 = .ok (.lmul, 1) := by decide +kernel
theorem dX9_fit_265 : decode cX9_fit 265 = .ok (.lload_n 2, 1) := by decide +kernel
theorem dX9_fit_266 : decode cX9_fit 266 = .ok (.ladd, 1) := by decide +kernel
theorem dX9_fit_267 : decode cX9_fit 267 = .ok (.ldc2_w 93, 3) := by decide +kernel
theorem dX9_fit_270 : decode cX9_fit 270 = .ok (.lload_n 2, 1) := by decide +kernel
theorem dX9_fit_271 : decode cX9_fit 271 = .ok (.lmul, 1) := by decide +kernel
theorem dX9_fit_272 : decode cX9_fit 272 = .ok (.invokestatic 157, 3) := by decide +kernel
theorem dX9_fit_275 : decode cX9_fit 275 = .ok (.lstore 9, 2) := by decide +kernel
theorem dX9_fit_277 : decode cX9_fit 277 = .ok (.lload 9, 2) := by decide +kernel
theorem dX9_fit_279 : decode cX9_fit 279 = .ok (.ldc2_w 137, 3) := by decide +kernel
theorem dX9_fit_282 : decode cX9_fit 282 = .ok (.ldc2_w 139, 3) := by decide +kernel
theorem dX9_fit_285 : decode cX9_fit 285 = .ok (.invokestatic 89, 3) := by decide +kernel
theorem dX9_fit_288 : decode cX9_fit 288 = .ok (.ifCond .ne 6, 3) := by decide +kernel
theorem dX9_fit_291 : decode cX9_fit 291 = .ok (.bipush (-2), 2) := by decide +kernel
theorem dX9_fit_293 : decode cX9_fit 293 = .ok (.ireturn, 1) := by decide +kernel
theorem dX9_fit_294 : decode cX9_fit 294 = .ok (.aload_n 0, 1) := by decide +kernel
theorem dX9_fit_295 : decode cX9_fit 295 = .ok (.getfield 60, 3) := by decide +kernel
theorem dX9_fit_298 : decode cX9_fit 298 = .ok (.iload 6, 2) := by decide +kernel
theorem dX9_fit_300 : decode cX9_fit 300 = .ok (.lload 9, 2) := by decide +kernel
theorem dX9_fit_302 : decode cX9_fit 302 = .ok (.l2i, 1) := by decide +kernel
theorem dX9_fit_303 : decode cX9_fit 303 = .ok (.iastore, 1) := by decide +kernel
theorem dX9_fit_304 : decode cX9_fit 304 = .ok (.iinc 6 1, 3) := by decide +kernel
theorem dX9_fit_307 : decode cX9_fit 307 = .ok (.goto (-196), 3) := by decide +kernel
theorem dX9_fit_310 : decode cX9_fit 310 = .ok (.aload_n 0, 1) := by decide +kernel
theorem dX9_fit_311 : decode cX9_fit 311 = .ok (.getfield 50, 3) := by decide +kernel
theorem dX9_fit_314 : decode cX9_fit 314 = .ok (.iconst 4, 1) := by decide +kernel
theorem dX9_fit_315 : decode cX9_fit 315 = .ok (.iload_n 1, 1) := by decide +kernel
theorem dX9_fit_316 : decode cX9_fit 316 = .ok (.imul, 1) := by decide +kernel
theorem dX9_fit_317 : decode cX9_fit 317 = .ok (.iconst 0, 1) := by decide +kernel
theorem dX9_fit_318 : decode cX9_fit 318 = .ok (.iastore, 1) := by decide +kernel
theorem dX9_fit_319 : decode cX9_fit 319 = .ok (.iconst 0, 1) := by decide +kernel
theorem dX9_fit_320 : decode cX9_fit 320 = .ok (.istore 6, 2) := by decide +kernel
theorem dX9_fit_322 : decode cX9_fit 322 = .ok (.iload 6, 2) := by decide +kernel
theorem dX9_fit_324 : decode cX9_fit 324 = .ok (.iconst 3, 1) := by decide +kernel
theorem dX9_fit_325 : decode cX9_fit 325 = .ok (.if_icmp .ge 29, 3) := by decide +kernel
theorem dX9_fit_328 : decode cX9_fit 328 = .ok (.aload_n 0, 1) := by decide +kernel
theorem dX9_fit_329 : decode cX9_fit 329 = .ok (.getfield 50, 3) := by decide +kernel
theorem dX9_fit_332 : decode cX9_fit 332 = .ok (.iconst 4, 1) := by decide +kernel
theorem dX9_fit_333 : decode cX9_fit 333 = .ok (.iload_n 1, 1) := by decide +kernel
theorem dX9_fit_334 : decode cX9_fit 334 = .ok (.imul, 1) := by decide +kernel
theorem dX9_fit_335 : decode cX9_fit 335 = .ok (.iload 6, 2) := by decide +kernel
theorem dX9_fit_337 : decode cX9_fit 337 = .ok (.iadd, 1) := by decide +kernel
theorem dX9_fit_338 : decode cX9_fit 338 = .ok (.iconst 1, 1) := by decide +kernel
theorem dX9_fit_339 : decode cX9_fit 339 = .ok (.iadd, 1) := by decide +kernel
theorem dX9_fit_340 : decode cX9_fit 340 = .ok (.aload_n 0, 1) := by decide +kernel
theorem dX9_fit_341 : decode cX9_fit 341 = .ok (.getfield 60, 3) := by decide +kernel
theorem dX9_fit_344 : decode cX9_fit 344 = .ok (.iload 6, 2) := by decide +kernel
theorem dX9_fit_346 : decode cX9_fit 346 = .ok (.iaload, 1) := by decide +kernel
theorem dX9_fit_347 : decode cX9_fit 347 = .ok (.iastore, 1) := by decide +kernel
theorem dX9_fit_348 : decode cX9_fit 348 = .ok (.iinc 6 1, 3) := by decide +kernel
theorem dX9_fit_351 : decode cX9_fit 351 = .ok (.goto (-29), 3) := by decide +kernel
theorem dX9_fit_354 : decode cX9_fit 354 = .ok (.iconst 1, 1) := by decide +kernel
theorem dX9_fit_355 : decode cX9_fit 355 = .ok (.ireturn, 1) := by decide +kernel
theorem dX9_hand_0 : decode cX9_hand 0 = .ok (.iload_n 1, 1) := by decide +kernel
theorem dX9_hand_1 : decode cX9_hand 1 = .ok (.invokestatic 116, 3) := by decide +kernel
theorem dX9_hand_4 : decode cX9_hand 4 = .ok (.ifCond .eq 33, 3) := by decide +kernel
theorem dX9_hand_7 : decode cX9_hand 7 = .ok (.iload_n 2, 1) := by decide +kernel
theorem dX9_hand_8 : decode cX9_hand 8 = .ok (.i2l, 1) := by decide +kernel
theorem dX9_hand_9 : decode cX9_hand 9 = .ok (.lconst 0, 1) := by decide +kernel
theorem dX9_hand_10 : decode cX9_hand 10 = .ok (.aload_n 0, 1) := by decide +kernel
theorem dX9_hand_11 : decode cX9_hand 11 = .ok (.getfield 22, 3) := by decide +kernel
theorem dX9_hand_14 : decode cX9_hand 14 = .ok (.iload_n 1, 1) := by decide +kernel
theorem dX9_hand_15 : decode cX9_hand 15 = .ok (.iaload, 1) := by decide +kernel
theorem dX9_hand_16 : decode cX9_hand 16 = .ok (.iconst 1, 1) := by decide +kernel
theorem dX9_hand_17 : decode cX9_hand 17 = .ok (.isub, 1) := by decide +kernel
theorem dX9_hand_18 : decode cX9_hand 18 = .ok (.i2l, 1) := by decide +kernel
theorem dX9_hand_19 : decode cX9_hand 19 = .ok (.invokestatic 89, 3) := by decide +kernel
theorem dX9_hand_22 : decode cX9_hand 22 = .ok (.ifCond .eq 15, 3) := by decide +kernel
theorem dX9_hand_25 : decode cX9_hand 25 = .ok (.iload_n 3, 1) := by decide +kernel
theorem dX9_hand_26 : decode cX9_hand 26 = .ok (.i2l, 1) := by decide +kernel
theorem dX9_hand_27 : decode cX9_hand 27 = .ok (.lconst 0, 1) := by decide +kernel
theorem dX9_hand_28 : decode cX9_hand 28 = .ok (.ldc2_w 93, 3) := by decide +kernel
theorem dX9_hand_31 : decode cX9_hand 31 = .ok (.invokestatic 89, 3) := by decide +kernel
theorem dX9_hand_34 : decode cX9_hand 34 = .ok (.ifCond .ne 5, 3) := by decide +kernel
theorem dX9_hand_37 : decode cX9_hand 37 = .ok (.iconst (-1), 1) := by decide +kernel
theorem dX9_hand_38 : decode cX9_hand 38 = .ok (.ireturn, 1) := by decide +kernel
theorem dX9_hand_39 : decode cX9_hand 39 = .ok (.bipush 100, 2) := by decide +kernel
theorem dX9_hand_41 : decode cX9_hand 41 = .ok (.iload_n 1, 1) := by decide +kernel
theorem dX9_hand_42 : decode cX9_hand 42 = .ok (.imul, 1) := by decide +kernel
theorem dX9_hand_43 : decode cX9_hand 43 = .ok (.iload_n 2, 1) := by decide +kernel
theorem dX9_hand_44 : decode cX9_hand 44 = .ok (.iadd, 1) := by decide +kernel
theorem dX9_hand_45 : decode cX9_hand 45 = .ok (.istore 4, 2) := by decide +kernel
theorem dX9_hand_47 : decode cX9_hand 47 = .ok (.aload_n 0, 1) := by decide +kernel
theorem dX9_hand_48 : decode cX9_hand 48 = .ok (.getfield 40, 3) := by decide +kernel
theorem dX9_hand_51 : decode cX9_hand 51 = .ok (.iload 4, 2) := by decide +kernel
theorem dX9_hand_53 : decode cX9_hand 53 = .ok (.iaload, 1) := by decide +kernel
theorem dX9_hand_54 : decode cX9_hand 54 = .ok (.istore 5, 2) := by decide +kernel
theorem dX9_hand_56 : decode cX9_hand 56 = .ok (.aload_n 0, 1) := by decide +kernel
theorem dX9_hand_57 : decode cX9_hand 57 = .ok (.getfield 40, 3) := by decide +kernel
theorem dX9_hand_60 : decode cX9_hand 60 = .ok (.iload 4, 2) := by decide +kernel
theorem dX9_hand_62 : decode cX9_hand 62 = .ok (.iload_n 3, 1) := by decide +kernel
theorem dX9_hand_63 : decode cX9_hand 63 = .ok (.iastore, 1) := by decide +kernel
theorem dX9_hand_64 : decode cX9_hand 64 = .ok (.aload_n 0, 1) := by decide +kernel
theorem dX9_hand_65 : decode cX9_hand 65 = .ok (.getfield 37, 3) := by decide +kernel
theorem dX9_hand_68 : decode cX9_hand 68 = .ok (.iload 4, 2) := by decide +kernel
theorem dX9_hand_70 : decode cX9_hand 70 = .ok (.iload_n 3, 1) := by decide +kernel
theorem dX9_hand_71 : decode cX9_hand 71 = .ok (.iastore, 1) := by decide +kernel
theorem dX9_hand_72 : decode cX9_hand 72 = .ok (.aload_n 0, 1) := by decide +kernel
theorem dX9_hand_73 : decode cX9_hand 73 = .ok (.getfield 43, 3) := by decide +kernel
theorem dX9_hand_76 : decode cX9_hand 76 = .ok (.iload 4, 2) := by decide +kernel
theorem dX9_hand_78 : decode cX9_hand 78 = .ok (.iload_n 3, 1) := by decide +kernel
theorem dX9_hand_79 : decode cX9_hand 79 = .ok (.iconst 1, 1) := by decide +kernel
theorem dX9_hand_80 : decode cX9_hand 80 = .ok (.if_icmp .ne 7, 3) := by decide +kernel
theorem dX9_hand_83 : decode cX9_hand 83 = .ok (.iconst 0, 1) := by decide +kernel
theorem dX9_hand_84 : decode cX9_hand 84 = .ok (.goto 4, 3) := by decide +kernel
theorem dX9_hand_87 : decode cX9_hand 87 = .ok (.iconst (-1), 1) := by decide +kernel
theorem dX9_hand_88 : decode cX9_hand 88 = .ok (.iastore, 1) := by decide +kernel
theorem dX9_hand_89 : decode cX9_hand 89 = .ok (.iload 5, 2) := by decide +kernel
theorem dX9_hand_91 : decode cX9_hand 91 = .ok (.ireturn, 1) := by decide +kernel
theorem dX9_ground_0 : decode cX9_ground 0 = .ok (.aload_n 0, 1) := by decide +kernel
theorem dX9_ground_1 : decode cX9_ground 1 = .ok (.getfield 37, 3) := by decide +kernel
theorem dX9_ground_4 : decode cX9_ground 4 = .ok (.iload_n 1, 1) := by decide +kernel
theorem dX9_ground_5 : decode cX9_ground 5 = .ok (.iconst 1, 1) := by decide +kernel
theorem dX9_ground_6 : decode cX9_ground 6 = .ok (.iastore, 1) := by decide +kernel
theorem dX9_ground_7 : decode cX9_ground 7 = .ok (.aload_n 0, 1) := by decide +kernel
theorem dX9_ground_8 : decode cX9_ground 8 = .ok (.getfield 43, 3) := by decide +kernel
theorem dX9_ground_11 : decode cX9_ground 11 = .ok (.iload_n 1, 1) := by decide +kernel
theorem dX9_ground_12 : decode cX9_ground 12 = .ok (.iload_n 2, 1) := by decide +kernel
theorem dX9_ground_13 : decode cX9_ground 13 = .ok (.iastore, 1) := by decide +kernel
theorem dX9_ground_14 : decode cX9_ground 14 = .ok (.return_, 1) := by decide +kernel
theorem dX9_seed_0 : decode cX9_seed 0 = .ok (.iconst 0, 1) := by decide +kernel
theorem dX9_seed_1 : decode cX9_seed 1 = .ok (.istore_n 2, 1) := by decide +kernel
theorem dX9_seed_2 : decode cX9_seed 2 = .ok (.iload_n 2, 1) := by decide +kernel
theorem dX9_seed_3 : decode cX9_seed 3 = .ok (.bipush 16, 2) := by decide +kernel
theorem dX9_seed_5 : decode cX9_seed 5 = .ok (.if_icmp .ge 114, 3) := by decide +kernel
theorem dX9_seed_8 : decode cX9_seed 8 = .ok (.iconst (-1), 1) := by decide +kernel
theorem dX9_seed_9 : decode cX9_seed 9 = .ok (.istore_n 3, 1) := by decide +kernel
theorem dX9_seed_10 : decode cX9_seed 10 = .ok (.bipush 100, 2) := by decide +kernel
theorem dX9_seed_12 : decode cX9_seed 12 = .ok (.iload_n 1, 1) := by decide +kernel
theorem dX9_seed_13 : decode cX9_seed 13 = .ok (.imul, 1) := by decide +kernel
theorem dX9_seed_14 : decode cX9_seed 14 = .ok (.istore 4, 2) := by decide +kernel
theorem dX9_seed_16 : decode cX9_seed 16 = .ok (.iload 4, 2) := by decide +kernel
theorem dX9_seed_18 : decode cX9_seed 18 = .ok (.aload_n 0, 1) := by decide +kernel
theorem dX9_seed_19 : decode cX9_seed 19 = .ok (.iload_n 1, 1) := by decide +kernel
theorem dX9_seed_20 : decode cX9_seed 20 = .ok (.invokevirtual 133, 3) := by decide +kernel
theorem dX9_seed_23 : decode cX9_seed 23 = .ok (.if_icmp .ge 80, 3) := by decide +kernel
theorem dX9_seed_26 : decode cX9_seed 26 = .ok (.aload_n 0, 1) := by decide +kernel
theorem dX9_seed_27 : decode cX9_seed 27 = .ok (.getfield 25, 3) := by decide +kernel
theorem dX9_seed_30 : decode cX9_seed 30 = .ok (.iload 4, 2) := by decide +kernel
theorem dX9_seed_32 : decode cX9_seed 32 = .ok (.iaload, 1) := by decide +kernel
theorem dX9_seed_33 : decode cX9_seed 33 = .ok (.aload_n 0, 1) := by decide +kernel
theorem dX9_seed_34 : decode cX9_seed 34 = .ok (.getfield 28, 3) := by decide +kernel
theorem dX9_seed_37 : decode cX9_seed 37 = .ok (.iload 4, 2) := by decide +kernel
theorem dX9_seed_39 : decode cX9_seed 39 = .ok (.iaload, 1) := by decide +kernel
theorem dX9_seed_40 : decode cX9_seed 40 = .ok (.invokestatic 113, 3) := by decide +kernel
theorem dX9_seed_43 : decode cX9_seed 43 = .ok (.iload_n 2, 1) := by decide +kernel
theorem dX9_seed_44 : decode cX9_seed 44 = .ok (.if_icmp .ne 18, 3) := by decide +kernel
theorem dX9_seed_47 : decode cX9_seed 47 = .ok (.aload_n 0, 1) := by decide +kernel
theorem dX9_seed_48 : decode cX9_seed 48 = .ok (.getfield 40, 3) := by decide +kernel
theorem dX9_seed_51 : decode cX9_seed 51 = .ok (.iload 4, 2) := by decide +kernel
theorem dX9_seed_53 : decode cX9_seed 53 = .ok (.iaload, 1) := by decide +kernel
theorem dX9_seed_54 : decode cX9_seed 54 = .ok (.iconst 2, 1) := by decide +kernel
theorem dX9_seed_55 : decode cX9_seed 55 = .ok (.if_icmp .eq 7, 3) := by decide +kernel
theorem dX9_seed_58 : decode cX9_seed 58 = .ok (.iconst 1, 1) := by decide +kernel
theorem dX9_seed_59 : decode cX9_seed 59 = .ok (.goto 4, 3) := by decide +kernel
theorem dX9_seed_62 : decode cX9_seed 62 = .ok (.iconst 0, 1) := by decide +kernel
theorem dX9_seed_63 : decode cX9_seed 63 = .ok (.istore 5, 2) := by decide +kernel
theorem dX9_seed_65 : decode cX9_seed 65 = .ok (.iload 5, 2) := by decide +kernel
theorem dX9_seed_67 : decode cX9_seed 67 = .ok (.ifCond .eq 28, 3) := by decide +kernel
theorem dX9_seed_70 : decode cX9_seed 70 = .ok (.iload_n 3, 1) := by decide +kernel
theorem dX9_seed_71 : decode cX9_seed 71 = .ok (.ifCond .lt 19, 3) := by decide +kernel
theorem dX9_seed_74 : decode cX9_seed 74 = .ok (.aload_n 0, 1) := by decide +kernel
theorem dX9_seed_75 : decode cX9_seed 75 = .ok (.iload_n 1, 1) := by decide +kernel
theorem dX9_seed_76 : decode cX9_seed 76 = .ok (.iload 4, 2) := by decide +kernel
theorem dX9_seed_78 : decode cX9_seed 78 = .ok (.invokevirtual 128, 3) := by decide +kernel
theorem dX9_seed_81 : decode cX9_seed 81 = .ok (.aload_n 0, 1) := by decide +kernel
theorem dX9_seed_82 : decode cX9_seed 82 = .ok (.iload_n 1, 1) := by decide +kernel
theorem dX9_seed_83 : decode cX9_seed 83 = .ok (.iload_n 3, 1) := by decide +kernel
theorem dX9_seed_84 : decode cX9_seed 84 = .ok (.invokevirtual 128, 3) := by decide +kernel
theorem dX9_seed_87 : decode cX9_seed 87 = .ok (.if_icmp .ge 8, 3) := by decide +kernel
theorem dX9_seed_90 : decode cX9_seed 90 = .ok (.iload 4, 2) := by decide +kernel
theorem dX9_seed_92 : decode cX9_seed 92 = .ok (.goto 4, 3) := by decide +kernel
theorem dX9_seed_95 : decode cX9_seed 95 = .ok (.iload_n 3, 1) := by decide +kernel
theorem dX9_seed_96 : decode cX9_seed 96 = .ok (.istore_n 3, 1) := by decide +kernel
theorem dX9_seed_97 : decode cX9_seed 97 = .ok (.iinc 4 1, 3) := by decide +kernel
theorem dX9_seed_100 : decode cX9_seed 100 = .ok (.goto (-84), 3) := by decide +kernel
theorem dX9_seed_103 : decode cX9_seed 103 = .ok (.iload_n 3, 1) := by decide +kernel
theorem dX9_seed_104 : decode cX9_seed 104 = .ok (.ifCond .lt 9, 3) := by decide +kernel
theorem dX9_seed_107 : decode cX9_seed 107 = .ok (.aload_n 0, 1) := by decide +kernel
theorem dX9_seed_108 : decode cX9_seed 108 = .ok (.iload_n 3, 1) := by decide +kernel
theorem dX9_seed_109 : decode cX9_seed 109 = .ok (.iconst 0, 1) := by decide +kernel
theorem dX9_seed_110 : decode cX9_seed 110 = .ok (.invokevirtual 161, 3) := by decide +kernel
theorem dX9_seed_113 : decode cX9_seed 113 = .ok (.iinc 2 1, 3) := by decide +kernel
theorem dX9_seed_116 : decode cX9_seed 116 = .ok (.goto (-114), 3) := by decide +kernel
theorem dX9_seed_119 : decode cX9_seed 119 = .ok (.bipush 100, 2) := by decide +kernel
theorem dX9_seed_121 : decode cX9_seed 121 = .ok (.iload_n 1, 1) := by decide +kernel
theorem dX9_seed_122 : decode cX9_seed 122 = .ok (.imul, 1) := by decide +kernel
theorem dX9_seed_123 : decode cX9_seed 123 = .ok (.istore_n 2, 1) := by decide +kernel
theorem dX9_seed_124 : decode cX9_seed 124 = .ok (.iload_n 2, 1) := by decide +kernel
theorem dX9_seed_125 : decode cX9_seed 125 = .ok (.aload_n 0, 1) := by decide +kernel
theorem dX9_seed_126 : decode cX9_seed 126 = .ok (.iload_n 1, 1) := by decide +kernel
theorem dX9_seed_127 : decode cX9_seed 127 = .ok (.invokevirtual 133, 3) := by decide +kernel
theorem dX9_seed_130 : decode cX9_seed 130 = .ok (.if_icmp .ge 25, 3) := by decide +kernel
theorem dX9_seed_133 : decode cX9_seed 133 = .ok (.aload_n 0, 1) := by decide +kernel
theorem dX9_seed_134 : decode cX9_seed 134 = .ok (.getfield 40, 3) := by decide +kernel
theorem dX9_seed_137 : decode cX9_seed 137 = .ok (.iload_n 2, 1) := by decide +kernel
theorem dX9_seed_138 : decode cX9_seed 138 = .ok (.iaload, 1) := by decide +kernel
theorem dX9_seed_139 : decode cX9_seed 139 = .ok (.iconst 1, 1) := by decide +kernel
theorem dX9_seed_140 : decode cX9_seed 140 = .ok (.if_icmp .ne 9, 3) := by decide +kernel
theorem dX9_seed_143 : decode cX9_seed 143 = .ok (.aload_n 0, 1) := by decide +kernel
theorem dX9_seed_144 : decode cX9_seed 144 = .ok (.iload_n 2, 1) := by decide +kernel
theorem dX9_seed_145 : decode cX9_seed 145 = .ok (.iconst 0, 1) := by decide +kernel
theorem dX9_seed_146 : decode cX9_seed 146 = .ok (.invokevirtual 161, 3) := by decide +kernel
theorem dX9_seed_149 : decode cX9_seed 149 = .ok (.iinc 2 1, 3) := by decide +kernel
theorem dX9_seed_152 : decode cX9_seed 152 = .ok (.goto (-28), 3) := by decide +kernel
theorem dX9_seed_155 : decode cX9_seed 155 = .ok (.return_, 1) := by decide +kernel
theorem dX9_reaches_0 : decode cX9_reaches 0 = .ok (.aload_n 0, 1) := by decide +kernel
theorem dX9_reaches_1 : decode cX9_reaches 1 = .ok (.getfield 25, 3) := by decide +kernel
theorem dX9_reaches_4 : decode cX9_reaches 4 = .ok (.iload_n 2, 1) := by decide +kernel
theorem dX9_reaches_5 : decode cX9_reaches 5 = .ok (.iaload, 1) := by decide +kernel
theorem dX9_reaches_6 : decode cX9_reaches 6 = .ok (.aload_n 0, 1) := by decide +kernel
theorem dX9_reaches_7 : decode cX9_reaches 7 = .ok (.getfield 25, 3) := by decide +kernel
theorem dX9_reaches_10 : decode cX9_reaches 10 = .ok (.iload_n 3, 1) := by decide +kernel
theorem dX9_reaches_11 : decode cX9_reaches 11 = .ok (.iaload, 1) := by decide +kernel
theorem dX9_reaches_12 : decode cX9_reaches 12 = .ok (.isub, 1) := by decide +kernel
theorem dX9_reaches_13 : decode cX9_reaches 13 = .ok (.i2l, 1) := by decide +kernel
theorem dX9_reaches_14 : decode cX9_reaches 14 = .ok (.lstore 7, 2) := by decide +kernel
theorem dX9_reaches_16 : decode cX9_reaches 16 = .ok (.aload_n 0, 1) := by decide +kernel
theorem dX9_reaches_17 : decode cX9_reaches 17 = .ok (.getfield 28, 3) := by decide +kernel
theorem dX9_reaches_20 : decode cX9_reaches 20 = .ok (.iload_n 2, 1) := by decide +kernel
theorem dX9_reaches_21 : decode cX9_reaches 21 = .ok (.iaload, 1) := by decide +kernel
theorem dX9_reaches_22 : decode cX9_reaches 22 = .ok (.aload_n 0, 1) := by decide +kernel
theorem dX9_reaches_23 : decode cX9_reaches 23 = .ok (.getfield 28, 3) := by decide +kernel
theorem dX9_reaches_26 : decode cX9_reaches 26 = .ok (.iload_n 3, 1) := by decide +kernel
theorem dX9_reaches_27 : decode cX9_reaches 27 = .ok (.iaload, 1) := by decide +kernel
theorem dX9_reaches_28 : decode cX9_reaches 28 = .ok (.isub, 1) := by decide +kernel
theorem dX9_reaches_29 : decode cX9_reaches 29 = .ok (.i2l, 1) := by decide +kernel
theorem dX9_reaches_30 : decode cX9_reaches 30 = .ok (.lstore 9, 2) := by decide +kernel
theorem dX9_reaches_32 : decode cX9_reaches 32 = .ok (.lload 7, 2) := by decide +kernel
theorem dX9_reaches_34 : decode cX9_reaches 34 = .ok (.lload 7, 2) := by decide +kernel
theorem dX9_reaches_36 : decode cX9_reaches 36 = .ok (.lmul, 1) := by decide +kernel
theorem dX9_reaches_37 : decode cX9_reaches 37 = .ok (.lload 9, 2) := by decide +kernel
theorem dX9_reaches_39 : decode cX9_reaches 39 = .ok (.lload 9, 2) := by decide +kernel
theorem dX9_reaches_41 : decode cX9_reaches 41 = .ok (.lmul, 1) := by decide +kernel
theorem dX9_reaches_42 : decode cX9_reaches 42 = .ok (.ladd, 1) := by decide +kernel
theorem dX9_reaches_43 : decode cX9_reaches 43 = .ok (.lstore 11, 2) := by decide +kernel
theorem dX9_reaches_45 : decode cX9_reaches 45 = .ok (.iload 5, 2) := by decide +kernel
theorem dX9_reaches_47 : decode cX9_reaches 47 = .ok (.i2l, 1) := by decide +kernel
theorem dX9_reaches_48 : decode cX9_reaches 48 = .ok (.aload_n 0, 1) := by decide +kernel
theorem dX9_reaches_49 : decode cX9_reaches 49 = .ok (.iload_n 1, 1) := by decide +kernel
theorem dX9_reaches_50 : decode cX9_reaches 50 = .ok (.iload_n 2, 1) := by decide +kernel
theorem dX9_reaches_51 : decode cX9_reaches 51 = .ok (.invokevirtual 128, 3) := by decide +kernel
theorem dX9_reaches_54 : decode cX9_reaches 54 = .ok (.aload_n 0, 1) := by decide +kernel
theorem dX9_reaches_55 : decode cX9_reaches 55 = .ok (.iload_n 1, 1) := by decide +kernel
theorem dX9_reaches_56 : decode cX9_reaches 56 = .ok (.iload_n 3, 1) := by decide +kernel
theorem dX9_reaches_57 : decode cX9_reaches 57 = .ok (.invokevirtual 128, 3) := by decide +kernel
theorem dX9_reaches_60 : decode cX9_reaches 60 = .ok (.isub, 1) := by decide +kernel
theorem dX9_reaches_61 : decode cX9_reaches 61 = .ok (.i2l, 1) := by decide +kernel
theorem dX9_reaches_62 : decode cX9_reaches 62 = .ok (.lmul, 1) := by decide +kernel
theorem dX9_reaches_63 : decode cX9_reaches 63 = .ok (.lstore 13, 2) := by decide +kernel
theorem dX9_reaches_65 : decode cX9_reaches 65 = .ok (.lload 11, 2) := by decide +kernel
theorem dX9_reaches_67 : decode cX9_reaches 67 = .ok (.iload 6, 2) := by decide +kernel
theorem dX9_reaches_69 : decode cX9_reaches 69 = .ok (.i2l, 1) := by decide +kernel
theorem dX9_reaches_70 : decode cX9_reaches 70 = .ok (.iload 6, 2) := by decide +kernel
theorem dX9_reaches_72 : decode cX9_reaches 72 = .ok (.i2l, 1) := by decide +kernel
theorem dX9_reaches_73 : decode cX9_reaches 73 = .ok (.lmul, 1) := by decide +kernel
theorem dX9_reaches_74 : decode cX9_reaches 74 = .ok (.lcmp, 1) := by decide +kernel
theorem dX9_reaches_75 : decode cX9_reaches 75 = .ok (.ifCond .gt 26, 3) := by decide +kernel
theorem dX9_reaches_78 : decode cX9_reaches 78 = .ok (.lload 13, 2) := by decide +kernel
theorem dX9_reaches_80 : decode cX9_reaches 80 = .ok (.lload 13, 2) := by decide +kernel
theorem dX9_reaches_82 : decode cX9_reaches 82 = .ok (.lmul, 1) := by decide +kernel
theorem dX9_reaches_83 : decode cX9_reaches 83 = .ok (.iload 4, 2) := by decide +kernel
theorem dX9_reaches_85 : decode cX9_reaches 85 = .ok (.i2l, 1) := by decide +kernel
theorem dX9_reaches_86 : decode cX9_reaches 86 = .ok (.iload 4, 2) := by decide +kernel
theorem dX9_reaches_88 : decode cX9_reaches 88 = .ok (.i2l, 1) := by decide +kernel
theorem dX9_reaches_89 : decode cX9_reaches 89 = .ok (.lmul, 1) := by decide +kernel
theorem dX9_reaches_90 : decode cX9_reaches 90 = .ok (.lload 11, 2) := by decide +kernel
theorem dX9_reaches_92 : decode cX9_reaches 92 = .ok (.lmul, 1) := by decide +kernel
theorem dX9_reaches_93 : decode cX9_reaches 93 = .ok (.lcmp, 1) := by decide +kernel
theorem dX9_reaches_94 : decode cX9_reaches 94 = .ok (.ifCond .gt 7, 3) := by decide +kernel
theorem dX9_reaches_97 : decode cX9_reaches 97 = .ok (.iconst 1, 1) := by decide +kernel
theorem dX9_reaches_98 : decode cX9_reaches 98 = .ok (.goto 4, 3) := by decide +kernel
theorem dX9_reaches_101 : decode cX9_reaches 101 = .ok (.iconst 0, 1) := by decide +kernel
theorem dX9_reaches_102 : decode cX9_reaches 102 = .ok (.ireturn, 1) := by decide +kernel
theorem dX9_isReached_0 : decode cX9_isReached 0 = .ok (.iconst 0, 1) := by decide +kernel
theorem dX9_isReached_1 : decode cX9_isReached 1 = .ok (.istore 7, 2) := by decide +kernel
theorem dX9_isReached_3 : decode cX9_isReached 3 = .ok (.bipush 100, 2) := by decide +kernel
theorem dX9_isReached_5 : decode cX9_isReached 5 = .ok (.iload_n 1, 1) := by decide +kernel
theorem dX9_isReached_6 : decode cX9_isReached 6 = .ok (.imul, 1) := by decide +kernel
theorem dX9_isReached_7 : decode cX9_isReached 7 = .ok (.istore 8, 2) := by decide +kernel
theorem dX9_isReached_9 : decode cX9_isReached 9 = .ok (.iload 8, 2) := by decide +kernel
theorem dX9_isReached_11 : decode cX9_isReached 11 = .ok (.aload_n 0, 1) := by decide +kernel
theorem dX9_isReached_12 : decode cX9_isReached 12 = .ok (.iload_n 1, 1) := by decide +kernel
theorem dX9_isReached_13 : decode cX9_isReached 13 = .ok (.invokevirtual 133, 3) := by decide +kernel
theorem dX9_isReached_16 : decode cX9_isReached 16 = .ok (.if_icmp .ge 60, 3) := by decide +kernel
theorem dX9_isReached_19 : decode cX9_isReached 19 = .ok (.iload 7, 2) := by decide +kernel
theorem dX9_isReached_21 : decode cX9_isReached 21 = .ok (.ifCond .ne 55, 3) := by decide +kernel
theorem dX9_isReached_24 : decode cX9_isReached 24 = .ok (.aload_n 0, 1) := by decide +kernel
theorem dX9_isReached_25 : decode cX9_isReached 25 = .ok (.getfield 37, 3) := by decide +kernel
theorem dX9_isReached_28 : decode cX9_isReached 28 = .ok (.iload 8, 2) := by decide +kernel
theorem dX9_isReached_30 : decode cX9_isReached 30 = .ok (.iaload, 1) := by decide +kernel
theorem dX9_isReached_31 : decode cX9_isReached 31 = .ok (.iconst 1, 1) := by decide +kernel
theorem dX9_isReached_32 : decode cX9_isReached 32 = .ok (.if_icmp .ne 35, 3) := by decide +kernel
theorem dX9_isReached_35 : decode cX9_isReached 35 = .ok (.aload_n 0, 1) := by decide +kernel
theorem dX9_isReached_36 : decode cX9_isReached 36 = .ok (.getfield 43, 3) := by decide +kernel
theorem dX9_isReached_39 : decode cX9_isReached 39 = .ok (.iload 8, 2) := by decide +kernel
theorem dX9_isReached_41 : decode cX9_isReached 41 = .ok (.iaload, 1) := by decide +kernel
theorem dX9_isReached_42 : decode cX9_isReached 42 = .ok (.iload_n 3, 1) := by decide +kernel
theorem dX9_isReached_43 : decode cX9_isReached 43 = .ok (.if_icmp .ge 24, 3) := by decide +kernel
theorem dX9_isReached_46 : decode cX9_isReached 46 = .ok (.aload_n 0, 1) := by decide +kernel
theorem dX9_isReached_47 : decode cX9_isReached 47 = .ok (.iload_n 1, 1) := by decide +kernel
theorem dX9_isReached_48 : decode cX9_isReached 48 = .ok (.iload_n 2, 1) := by decide +kernel
theorem dX9_isReached_49 : decode cX9_isReached 49 = .ok (.iload 8, 2) := by decide +kernel
theorem dX9_isReached_51 : decode cX9_isReached 51 = .ok (.iload 4, 2) := by decide +kernel
theorem dX9_isReached_53 : decode cX9_isReached 53 = .ok (.iload 5, 2) := by decide +kernel
theorem dX9_isReached_55 : decode cX9_isReached 55 = .ok (.iload 6, 2) := by decide +kernel
theorem dX9_isReached_57 : decode cX9_isReached 57 = .ok (.invokevirtual 165, 3) := by decide +kernel
theorem dX9_isReached_60 : decode cX9_isReached 60 = .ok (.ifCond .eq 7, 3) := by decide +kernel
theorem dX9_isReached_63 : decode cX9_isReached 63 = .ok (.iconst 1, 1) := by decide +kernel
theorem dX9_isReached_64 : decode cX9_isReached 64 = .ok (.goto 4, 3) := by decide +kernel
theorem dX9_isReached_67 : decode cX9_isReached 67 = .ok (.iconst 0, 1) := by decide +kernel
theorem dX9_isReached_68 : decode cX9_isReached 68 = .ok (.istore 7, 2) := by decide +kernel
theorem dX9_isReached_70 : decode cX9_isReached 70 = .ok (.iinc 8 1, 3) := by decide +kernel
theorem dX9_isReached_73 : decode cX9_isReached 73 = .ok (.goto (-64), 3) := by decide +kernel
theorem dX9_isReached_76 : decode cX9_isReached 76 = .ok (.iload 7, 2) := by decide +kernel
theorem dX9_isReached_78 : decode cX9_isReached 78 = .ok (.ireturn, 1) := by decide +kernel
theorem dX9_countOf_0 : decode cX9_countOf 0 = .ok (.iconst 0, 1) := by decide +kernel
theorem dX9_countOf_1 : decode cX9_countOf 1 = .ok (.istore_n 3, 1) := by decide +kernel
theorem dX9_countOf_2 : decode cX9_countOf 2 = .ok (.bipush 100, 2) := by decide +kernel
theorem dX9_countOf_4 : decode cX9_countOf 4 = .ok (.iload_n 1, 1) := by decide +kernel
theorem dX9_countOf_5 : decode cX9_countOf 5 = .ok (.imul, 1) := by decide +kernel
theorem dX9_countOf_6 : decode cX9_countOf 6 = .ok (.istore 4, 2) := by decide +kernel
theorem dX9_countOf_8 : decode cX9_countOf 8 = .ok (.iload 4, 2) := by decide +kernel
theorem dX9_countOf_10 : decode cX9_countOf 10 = .ok (.aload_n 0, 1) := by decide +kernel
theorem dX9_countOf_11 : decode cX9_countOf 11 = .ok (.iload_n 1, 1) := by decide +kernel
theorem dX9_countOf_12 : decode cX9_countOf 12 = .ok (.invokevirtual 133, 3) := by decide +kernel
theorem dX9_countOf_15 : decode cX9_countOf 15 = .ok (.if_icmp .ge 28, 3) := by decide +kernel
theorem dX9_countOf_18 : decode cX9_countOf 18 = .ok (.iload_n 3, 1) := by decide +kernel
theorem dX9_countOf_19 : decode cX9_countOf 19 = .ok (.aload_n 0, 1) := by decide +kernel
theorem dX9_countOf_20 : decode cX9_countOf 20 = .ok (.getfield 37, 3) := by decide +kernel
theorem dX9_countOf_23 : decode cX9_countOf 23 = .ok (.iload 4, 2) := by decide +kernel
theorem dX9_countOf_25 : decode cX9_countOf 25 = .ok (.iaload, 1) := by decide +kernel
theorem dX9_countOf_26 : decode cX9_countOf 26 = .ok (.iload_n 2, 1) := by decide +kernel
theorem dX9_countOf_27 : decode cX9_countOf 27 = .ok (.if_icmp .ne 7, 3) := by decide +kernel
theorem dX9_countOf_30 : decode cX9_countOf 30 = .ok (.iconst 1, 1) := by decide +kernel
theorem dX9_countOf_31 : decode cX9_countOf 31 = .ok (.goto 4, 3) := by decide +kernel
theorem dX9_countOf_34 : decode cX9_countOf 34 = .ok (.iconst 0, 1) := by decide +kernel
theorem dX9_countOf_35 : decode cX9_countOf 35 = .ok (.iadd, 1) := by decide +kernel
theorem dX9_countOf_36 : decode cX9_countOf 36 = .ok (.istore_n 3, 1) := by decide +kernel
theorem dX9_countOf_37 : decode cX9_countOf 37 = .ok (.iinc 4 1, 3) := by decide +kernel
theorem dX9_countOf_40 : decode cX9_countOf 40 = .ok (.goto (-32), 3) := by decide +kernel
theorem dX9_countOf_43 : decode cX9_countOf 43 = .ok (.iload_n 3, 1) := by decide +kernel
theorem dX9_countOf_44 : decode cX9_countOf 44 = .ok (.ireturn, 1) := by decide +kernel
theorem dX9_isGrowing_0 : decode cX9_isGrowing 0 = .ok (.iload_n 0, 1) := by decide +kernel
theorem dX9_isGrowing_1 : decode cX9_isGrowing 1 = .ok (.i2l, 1) := by decide +kernel
theorem dX9_isGrowing_2 : decode cX9_isGrowing 2 = .ok (.lconst 0, 1) := by decide +kernel
theorem dX9_isGrowing_3 : decode cX9_isGrowing 3 = .ok (.ldc2_w 169, 3) := by decide +kernel
theorem dX9_isGrowing_6 : decode cX9_isGrowing 6 = .ok (.invokestatic 89, 3) := by decide +kernel
theorem dX9_isGrowing_9 : decode cX9_isGrowing 9 = .ok (.ifCond .eq 31, 3) := by decide +kernel
theorem dX9_isGrowing_12 : decode cX9_isGrowing 12 = .ok (.iload_n 1, 1) := by decide +kernel
theorem dX9_isGrowing_13 : decode cX9_isGrowing 13 = .ok (.i2l, 1) := by decide +kernel
theorem dX9_isGrowing_14 : decode cX9_isGrowing 14 = .ok (.lconst 1, 1) := by decide +kernel
theorem dX9_isGrowing_15 : decode cX9_isGrowing 15 = .ok (.ldc2_w 169, 3) := by decide +kernel
theorem dX9_isGrowing_18 : decode cX9_isGrowing 18 = .ok (.invokestatic 89, 3) := by decide +kernel
theorem dX9_isGrowing_21 : decode cX9_isGrowing 21 = .ok (.ifCond .eq 19, 3) := by decide +kernel
theorem dX9_isGrowing_24 : decode cX9_isGrowing 24 = .ok (.iload_n 2, 1) := by decide +kernel
theorem dX9_isGrowing_25 : decode cX9_isGrowing 25 = .ok (.i2l, 1) := by decide +kernel
theorem dX9_isGrowing_26 : decode cX9_isGrowing 26 = .ok (.lconst 1, 1) := by decide +kernel
theorem dX9_isGrowing_27 : decode cX9_isGrowing 27 = .ok (.ldc2_w 171, 3) := by decide +kernel
theorem dX9_isGrowing_30 : decode cX9_isGrowing 30 = .ok (.invokestatic 89, 3) := by decide +kernel
theorem dX9_isGrowing_33 : decode cX9_isGrowing 33 = .ok (.ifCond .eq 7, 3) := by decide +kernel
theorem dX9_isGrowing_36 : decode cX9_isGrowing 36 = .ok (.iconst 1, 1) := by decide +kernel
theorem dX9_isGrowing_37 : decode cX9_isGrowing 37 = .ok (.goto 4, 3) := by decide +kernel
theorem dX9_isGrowing_40 : decode cX9_isGrowing 40 = .ok (.iconst 0, 1) := by decide +kernel
theorem dX9_isGrowing_41 : decode cX9_isGrowing 41 = .ok (.ireturn, 1) := by decide +kernel
theorem dX9_grow_0 : decode cX9_grow 0 = .ok (.iload_n 1, 1) := by decide +kernel
theorem dX9_grow_1 : decode cX9_grow 1 = .ok (.invokestatic 116, 3) := by decide +kernel
theorem dX9_grow_4 : decode cX9_grow 4 = .ok (.ifCond .eq 13, 3) := by decide +kernel
theorem dX9_grow_7 : decode cX9_grow 7 = .ok (.iload_n 2, 1) := by decide +kernel
theorem dX9_grow_8 : decode cX9_grow 8 = .ok (.iload_n 3, 1) := by decide +kernel
theorem dX9_grow_9 : decode cX9_grow 9 = .ok (.iload 4, 2) := by decide +kernel
theorem dX9_grow_11 : decode cX9_grow 11 = .ok (.invokestatic 173, 3) := by decide +kernel
theorem dX9_grow_14 : decode cX9_grow 14 = .ok (.ifCond .ne 5, 3) := by decide +kernel
theorem dX9_grow_17 : decode cX9_grow 17 = .ok (.iconst (-1), 1) := by decide +kernel
theorem dX9_grow_18 : decode cX9_grow 18 = .ok (.ireturn, 1) := by decide +kernel
theorem dX9_grow_19 : decode cX9_grow 19 = .ok (.bipush 100, 2) := by decide +kernel
theorem dX9_grow_21 : decode cX9_grow 21 = .ok (.iload_n 1, 1) := by decide +kernel
theorem dX9_grow_22 : decode cX9_grow 22 = .ok (.imul, 1) := by decide +kernel
theorem dX9_grow_23 : decode cX9_grow 23 = .ok (.istore 5, 2) := by decide +kernel
theorem dX9_grow_25 : decode cX9_grow 25 = .ok (.iload 5, 2) := by decide +kernel
theorem dX9_grow_27 : decode cX9_grow 27 = .ok (.aload_n 0, 1) := by decide +kernel
theorem dX9_grow_28 : decode cX9_grow 28 = .ok (.iload_n 1, 1) := by decide +kernel
theorem dX9_grow_29 : decode cX9_grow 29 = .ok (.invokevirtual 133, 3) := by decide +kernel
theorem dX9_grow_32 : decode cX9_grow 32 = .ok (.if_icmp .ge 25, 3) := by decide +kernel
theorem dX9_grow_35 : decode cX9_grow 35 = .ok (.aload_n 0, 1) := by decide +kernel
theorem dX9_grow_36 : decode cX9_grow 36 = .ok (.getfield 37, 3) := by decide +kernel
theorem dX9_grow_39 : decode cX9_grow 39 = .ok (.iload 5, 2) := by decide +kernel
theorem dX9_grow_41 : decode cX9_grow 41 = .ok (.iconst 2, 1) := by decide +kernel
theorem dX9_grow_42 : decode cX9_grow 42 = .ok (.iastore, 1) := by decide +kernel
theorem dX9_grow_43 : decode cX9_grow 43 = .ok (.aload_n 0, 1) := by decide +kernel
theorem dX9_grow_44 : decode cX9_grow 44 = .ok (.getfield 43, 3) := by decide +kernel
theorem dX9_grow_47 : decode cX9_grow 47 = .ok (.iload 5, 2) := by decide +kernel
theorem dX9_grow_49 : decode cX9_grow 49 = .ok (.iconst (-1), 1) := by decide +kernel
theorem dX9_grow_50 : decode cX9_grow 50 = .ok (.iastore, 1) := by decide +kernel
theorem dX9_grow_51 : decode cX9_grow 51 = .ok (.iinc 5 1, 3) := by decide +kernel
theorem dX9_grow_54 : decode cX9_grow 54 = .ok (.goto (-29), 3) := by decide +kernel
theorem dX9_grow_57 : decode cX9_grow 57 = .ok (.aload_n 0, 1) := by decide +kernel
theorem dX9_grow_58 : decode cX9_grow 58 = .ok (.iload_n 1, 1) := by decide +kernel
theorem dX9_grow_59 : decode cX9_grow 59 = .ok (.invokevirtual 176, 3) := by decide +kernel
theorem dX9_grow_62 : decode cX9_grow 62 = .ok (.iconst 1, 1) := by decide +kernel
theorem dX9_grow_63 : decode cX9_grow 63 = .ok (.istore 5, 2) := by decide +kernel
theorem dX9_grow_65 : decode cX9_grow 65 = .ok (.iconst 1, 1) := by decide +kernel
theorem dX9_grow_66 : decode cX9_grow 66 = .ok (.istore 6, 2) := by decide +kernel
theorem dX9_grow_68 : decode cX9_grow 68 = .ok (.iload 5, 2) := by decide +kernel
theorem dX9_grow_70 : decode cX9_grow 70 = .ok (.ifCond .eq 83, 3) := by decide +kernel
theorem dX9_grow_73 : decode cX9_grow 73 = .ok (.iconst 0, 1) := by decide +kernel
theorem dX9_grow_74 : decode cX9_grow 74 = .ok (.istore 5, 2) := by decide +kernel
theorem dX9_grow_76 : decode cX9_grow 76 = .ok (.bipush 100, 2) := by decide +kernel
theorem dX9_grow_78 : decode cX9_grow 78 = .ok (.iload_n 1, 1) := by decide +kernel
theorem dX9_grow_79 : decode cX9_grow 79 = .ok (.imul, 1) := by decide +kernel
theorem dX9_grow_80 : decode cX9_grow 80 = .ok (.istore 7, 2) := by decide +kernel
theorem dX9_grow_82 : decode cX9_grow 82 = .ok (.iload 7, 2) := by decide +kernel
theorem dX9_grow_84 : decode cX9_grow 84 = .ok (.aload_n 0, 1) := by decide +kernel
theorem dX9_grow_85 : decode cX9_grow 85 = .ok (.iload_n 1, 1) := by decide +kernel
theorem dX9_grow_86 : decode cX9_grow 86 = .ok (.invokevirtual 133, 3) := by decide +kernel
theorem dX9_grow_89 : decode cX9_grow 89 = .ok (.if_icmp .ge 58, 3) := by decide +kernel
theorem dX9_grow_92 : decode cX9_grow 92 = .ok (.aload_n 0, 1) := by decide +kernel
theorem dX9_grow_93 : decode cX9_grow 93 = .ok (.getfield 37, 3) := by decide +kernel
theorem dX9_grow_96 : decode cX9_grow 96 = .ok (.iload 7, 2) := by decide +kernel
theorem dX9_grow_98 : decode cX9_grow 98 = .ok (.iaload, 1) := by decide +kernel
theorem dX9_grow_99 : decode cX9_grow 99 = .ok (.iconst 1, 1) := by decide +kernel
theorem dX9_grow_100 : decode cX9_grow 100 = .ok (.if_icmp .eq 41, 3) := by decide +kernel
theorem dX9_grow_103 : decode cX9_grow 103 = .ok (.aload_n 0, 1) := by decide +kernel
theorem dX9_grow_104 : decode cX9_grow 104 = .ok (.getfield 40, 3) := by decide +kernel
theorem dX9_grow_107 : decode cX9_grow 107 = .ok (.iload 7, 2) := by decide +kernel
theorem dX9_grow_109 : decode cX9_grow 109 = .ok (.iaload, 1) := by decide +kernel
theorem dX9_grow_110 : decode cX9_grow 110 = .ok (.iconst 2, 1) := by decide +kernel
theorem dX9_grow_111 : decode cX9_grow 111 = .ok (.if_icmp .eq 30, 3) := by decide +kernel
theorem dX9_grow_114 : decode cX9_grow 114 = .ok (.aload_n 0, 1) := by decide +kernel
theorem dX9_grow_115 : decode cX9_grow 115 = .ok (.iload_n 1, 1) := by decide +kernel
theorem dX9_grow_116 : decode cX9_grow 116 = .ok (.iload 7, 2) := by decide +kernel
theorem dX9_grow_118 : decode cX9_grow 118 = .ok (.iload 6, 2) := by decide +kernel
theorem dX9_grow_120 : decode cX9_grow 120 = .ok (.iload_n 2, 1) := by decide +kernel
theorem dX9_grow_121 : decode cX9_grow 121 = .ok (.iload_n 3, 1) := by decide +kernel
theorem dX9_grow_122 : decode cX9_grow 122 = .ok (.iload 4, 2) := by decide +kernel
theorem dX9_grow_124 : decode cX9_grow 124 = .ok (.invokevirtual 179, 3) := by decide +kernel
theorem dX9_grow_127 : decode cX9_grow 127 = .ok (.ifCond .eq 14, 3) := by decide +kernel
theorem dX9_grow_130 : decode cX9_grow 130 = .ok (.aload_n 0, 1) := by decide +kernel
theorem dX9_grow_131 : decode cX9_grow 131 = .ok (.iload 7, 2) := by decide +kernel
theorem dX9_grow_133 : decode cX9_grow 133 = .ok (.iload 6, 2) := by decide +kernel
theorem dX9_grow_135 : decode cX9_grow 135 = .ok (.invokevirtual 161, 3) := by decide +kernel
theorem dX9_grow_138 : decode cX9_grow 138 = .ok (.iconst 1, 1) := by decide +kernel
theorem dX9_grow_139 : decode cX9_grow 139 = .ok (.istore 5, 2) := by decide +kernel
theorem dX9_grow_141 : decode cX9_grow 141 = .ok (.iinc 7 1, 3) := by decide +kernel
theorem dX9_grow_144 : decode cX9_grow 144 = .ok (.goto (-62), 3) := by decide +kernel
theorem dX9_grow_147 : decode cX9_grow 147 = .ok (.iinc 6 1, 3) := by decide +kernel
theorem dX9_grow_150 : decode cX9_grow 150 = .ok (.goto (-82), 3) := by decide +kernel
theorem dX9_grow_153 : decode cX9_grow 153 = .ok (.aload_n 0, 1) := by decide +kernel
theorem dX9_grow_154 : decode cX9_grow 154 = .ok (.iload_n 1, 1) := by decide +kernel
theorem dX9_grow_155 : decode cX9_grow 155 = .ok (.iconst 1, 1) := by decide +kernel
theorem dX9_grow_156 : decode cX9_grow 156 = .ok (.invokevirtual 182, 3) := by decide +kernel
theorem dX9_grow_159 : decode cX9_grow 159 = .ok (.ireturn, 1) := by decide +kernel
theorem dX9_nearPlane_0 : decode cX9_nearPlane 0 = .ok (.aload_n 0, 1) := by decide +kernel
theorem dX9_nearPlane_1 : decode cX9_nearPlane 1 = .ok (.getfield 25, 3) := by decide +kernel
theorem dX9_nearPlane_4 : decode cX9_nearPlane 4 = .ok (.iload_n 3, 1) := by decide +kernel
theorem dX9_nearPlane_5 : decode cX9_nearPlane 5 = .ok (.iaload, 1) := by decide +kernel
theorem dX9_nearPlane_6 : decode cX9_nearPlane 6 = .ok (.aload_n 0, 1) := by decide +kernel
theorem dX9_nearPlane_7 : decode cX9_nearPlane 7 = .ok (.getfield 25, 3) := by decide +kernel
theorem dX9_nearPlane_10 : decode cX9_nearPlane 10 = .ok (.iload_n 2, 1) := by decide +kernel
theorem dX9_nearPlane_11 : decode cX9_nearPlane 11 = .ok (.iaload, 1) := by decide +kernel
theorem dX9_nearPlane_12 : decode cX9_nearPlane 12 = .ok (.isub, 1) := by decide +kernel
theorem dX9_nearPlane_13 : decode cX9_nearPlane 13 = .ok (.i2l, 1) := by decide +kernel
theorem dX9_nearPlane_14 : decode cX9_nearPlane 14 = .ok (.lstore 6, 2) := by decide +kernel
theorem dX9_nearPlane_16 : decode cX9_nearPlane 16 = .ok (.aload_n 0, 1) := by decide +kernel
theorem dX9_nearPlane_17 : decode cX9_nearPlane 17 = .ok (.getfield 28, 3) := by decide +kernel
theorem dX9_nearPlane_20 : decode cX9_nearPlane 20 = .ok (.iload_n 3, 1) := by decide +kernel
theorem dX9_nearPlane_21 : decode cX9_nearPlane 21 = .ok (.iaload, 1) := by decide +kernel
theorem dX9_nearPlane_22 : decode cX9_nearPlane 22 = .ok (.aload_n 0, 1) := by decide +kernel
theorem dX9_nearPlane_23 : decode cX9_nearPlane 23 = .ok (.getfield 28, 3) := by decide +kernel
theorem dX9_nearPlane_26 : decode cX9_nearPlane 26 = .ok (.iload_n 2, 1) := by decide +kernel
theorem dX9_nearPlane_27 : decode cX9_nearPlane 27 = .ok (.iaload, 1) := by decide +kernel
theorem dX9_nearPlane_28 : decode cX9_nearPlane 28 = .ok (.isub, 1) := by decide +kernel
theorem dX9_nearPlane_29 : decode cX9_nearPlane 29 = .ok (.i2l, 1) := by decide +kernel
theorem dX9_nearPlane_30 : decode cX9_nearPlane 30 = .ok (.lstore 8, 2) := by decide +kernel
theorem dX9_nearPlane_32 : decode cX9_nearPlane 32 = .ok (.aload_n 0, 1) := by decide +kernel
theorem dX9_nearPlane_33 : decode cX9_nearPlane 33 = .ok (.iload_n 1, 1) := by decide +kernel
theorem dX9_nearPlane_34 : decode cX9_nearPlane 34 = .ok (.iload_n 3, 1) := by decide +kernel
theorem dX9_nearPlane_35 : decode cX9_nearPlane 35 = .ok (.invokevirtual 128, 3) := by decide +kernel
theorem dX9_nearPlane_38 : decode cX9_nearPlane 38 = .ok (.aload_n 0, 1) := by decide +kernel
theorem dX9_nearPlane_39 : decode cX9_nearPlane 39 = .ok (.iload_n 1, 1) := by decide +kernel
theorem dX9_nearPlane_40 : decode cX9_nearPlane 40 = .ok (.iload_n 2, 1) := by decide +kernel
theorem dX9_nearPlane_41 : decode cX9_nearPlane 41 = .ok (.invokevirtual 128, 3) := by decide +kernel
theorem dX9_nearPlane_44 : decode cX9_nearPlane 44 = .ok (.isub, 1) := by decide +kernel
theorem dX9_nearPlane_45 : decode cX9_nearPlane 45 = .ok (.i2l, 1) := by decide +kernel
theorem dX9_nearPlane_46 : decode cX9_nearPlane 46 = .ok (.lstore 10, 2) := by decide +kernel
