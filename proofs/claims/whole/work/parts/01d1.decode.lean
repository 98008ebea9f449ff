theorem dX9_nearPlane_48 : decode cX9_nearPlane 48 = .ok (.aload_n 0, 1) := by decide +kernel
theorem dX9_nearPlane_49 : decode cX9_nearPlane 49 = .ok (.getfield 25, 3) := by decide +kernel
theorem dX9_nearPlane_52 : decode cX9_nearPlane 52 = .ok (.iload 4, 2) := by decide +kernel
theorem dX9_nearPlane_54 : decode cX9_nearPlane 54 = .ok (.iaload, 1) := by decide +kernel
theorem dX9_nearPlane_55 : decode cX9_nearPlane 55 = .ok (.aload_n 0, 1) := by decide +kernel
theorem dX9_nearPlane_56 : decode cX9_nearPlane 56 = .ok (.getfield 25, 3) := by decide +kernel
theorem dX9_nearPlane_59 : decode cX9_nearPlane 59 = .ok (.iload_n 2, 1) := by decide +kernel
theorem dX9_nearPlane_60 : decode cX9_nearPlane 60 = .ok (.iaload, 1) := by decide +kernel
theorem dX9_nearPlane_61 : decode cX9_nearPlane 61 = .ok (.isub, 1) := by decide +kernel
theorem dX9_nearPlane_62 : decode cX9_nearPlane 62 = .ok (.i2l, 1) := by decide +kernel
theorem dX9_nearPlane_63 : decode cX9_nearPlane 63 = .ok (.lstore 12, 2) := by decide +kernel
theorem dX9_nearPlane_65 : decode cX9_nearPlane 65 = .ok (.aload_n 0, 1) := by decide +kernel
theorem dX9_nearPlane_66 : decode cX9_nearPlane 66 = .ok (.getfield 28, 3) := by decide +kernel
theorem dX9_nearPlane_69 : decode cX9_nearPlane 69 = .ok (.iload 4, 2) := by decide +kernel
theorem dX9_nearPlane_71 : decode cX9_nearPlane 71 = .ok (.iaload, 1) := by decide +kernel
theorem dX9_nearPlane_72 : decode cX9_nearPlane 72 = .ok (.aload_n 0, 1) := by decide +kernel
theorem dX9_nearPlane_73 : decode cX9_nearPlane 73 = .ok (.getfield 28, 3) := by decide +kernel
theorem dX9_nearPlane_76 : decode cX9_nearPlane 76 = .ok (.iload_n 2, 1) := by decide +kernel
theorem dX9_nearPlane_77 : decode cX9_nearPlane 77 = .ok (.iaload, 1) := by decide +kernel
theorem dX9_nearPlane_78 : decode cX9_nearPlane 78 = .ok (.isub, 1) := by decide +kernel
theorem dX9_nearPlane_79 : decode cX9_nearPlane 79 = .ok (.i2l, 1) := by decide +kernel
theorem dX9_nearPlane_80 : decode cX9_nearPlane 80 = .ok (.lstore 14, 2) := by decide +kernel
theorem dX9_nearPlane_82 : decode cX9_nearPlane 82 = .ok (.aload_n 0, 1) := by decide +kernel
theorem dX9_nearPlane_83 : decode cX9_nearPlane 83 = .ok (.iload_n 1, 1) := by decide +kernel
theorem dX9_nearPlane_84 : decode cX9_nearPlane 84 = .ok (.iload 4, 2) := by decide +kernel
theorem dX9_nearPlane_86 : decode cX9_nearPlane 86 = .ok (.invokevirtual 128, 3) := by decide +kernel
theorem dX9_nearPlane_89 : decode cX9_nearPlane 89 = .ok (.aload_n 0, 1) := by decide +kernel
theorem dX9_nearPlane_90 : decode cX9_nearPlane 90 = .ok (.iload_n 1, 1) := by decide +kernel
theorem dX9_nearPlane_91 : decode cX9_nearPlane 91 = .ok (.iload_n 2, 1) := by decide +kernel
theorem dX9_nearPlane_92 : decode cX9_nearPlane 92 = .ok (.invokevirtual 128, 3) := by decide +kernel
theorem dX9_nearPlane_95 : decode cX9_nearPlane 95 = .ok (.isub, 1) := by decide +kernel
theorem dX9_nearPlane_96 : decode cX9_nearPlane 96 = .ok (.i2l, 1) := by decide +kernel
theorem dX9_nearPlane_97 : decode cX9_nearPlane 97 = .ok (.lstore 16, 2) := by decide +kernel
theorem dX9_nearPlane_99 : decode cX9_nearPlane 99 = .ok (.lload 6, 2) := by decide +kernel
theorem dX9_nearPlane_101 : decode cX9_nearPlane 101 = .ok (.lload 14, 2) := by decide +kernel
theorem dX9_nearPlane_103 : decode cX9_nearPlane 103 = .ok (.lmul, 1) := by decide +kernel
theorem dX9_nearPlane_104 : decode cX9_nearPlane 104 = .ok (.lload 12, 2) := by decide +kernel
theorem dX9_nearPlane_106 : decode cX9_nearPlane 106 = .ok (.lload 8, 2) := by decide +kernel
theorem dX9_nearPlane_108 : decode cX9_nearPlane 108 = .ok (.lmul, 1) := by decide +kernel
theorem dX9_nearPlane_109 : decode cX9_nearPlane 109 = .ok (.lsub, 1) := by decide +kernel
theorem dX9_nearPlane_110 : decode cX9_nearPlane 110 = .ok (.lstore 18, 2) := by decide +kernel
theorem dX9_nearPlane_112 : decode cX9_nearPlane 112 = .ok (.lload 18, 2) := by decide +kernel
theorem dX9_nearPlane_114 : decode cX9_nearPlane 114 = .ok (.lconst 0, 1) := by decide +kernel
theorem dX9_nearPlane_115 : decode cX9_nearPlane 115 = .ok (.lcmp, 1) := by decide +kernel
theorem dX9_nearPlane_116 : decode cX9_nearPlane 116 = .ok (.ifCond .ne 5, 3) := by decide +kernel
theorem dX9_nearPlane_119 : decode cX9_nearPlane 119 = .ok (.iconst 0, 1) := by decide +kernel
theorem dX9_nearPlane_120 : decode cX9_nearPlane 120 = .ok (.ireturn, 1) := by decide +kernel
theorem dX9_nearPlane_121 : decode cX9_nearPlane 121 = .ok (.lload 10, 2) := by decide +kernel
theorem dX9_nearPlane_123 : decode cX9_nearPlane 123 = .ok (.lload 14, 2) := by decide +kernel
theorem dX9_nearPlane_125 : decode cX9_nearPlane 125 = .ok (.lmul, 1) := by decide +kernel
theorem dX9_nearPlane_126 : decode cX9_nearPlane 126 = .ok (.lload 16, 2) := by decide +kernel
theorem dX9_nearPlane_128 : decode cX9_nearPlane 128 = .ok (.lload 8, 2) := by decide +kernel
theorem dX9_nearPlane_130 : decode cX9_nearPlane 130 = .ok (.lmul, 1) := by decide +kernel
theorem dX9_nearPlane_131 : decode cX9_nearPlane 131 = .ok (.lsub, 1) := by decide +kernel
theorem dX9_nearPlane_132 : decode cX9_nearPlane 132 = .ok (.lstore 20, 2) := by decide +kernel
theorem dX9_nearPlane_134 : decode cX9_nearPlane 134 = .ok (.lload 6, 2) := by decide +kernel
theorem dX9_nearPlane_136 : decode cX9_nearPlane 136 = .ok (.lload 16, 2) := by decide +kernel
theorem dX9_nearPlane_138 : decode cX9_nearPlane 138 = .ok (.lmul, 1) := by decide +kernel
theorem dX9_nearPlane_139 : decode cX9_nearPlane 139 = .ok (.lload 12, 2) := by decide +kernel
theorem dX9_nearPlane_141 : decode cX9_nearPlane 141 = .ok (.lload 10, 2) := by decide +kernel
theorem dX9_nearPlane_143 : decode cX9_nearPlane 143 = .ok (.lmul, 1) := by decide +kernel
theorem dX9_nearPlane_144 : decode cX9_nearPlane 144 = .ok (.lsub, 1) := by decide +kernel
theorem dX9_nearPlane_145 : decode cX9_nearPlane 145 = .ok (.lstore 22, 2) := by decide +kernel
theorem dX9_nearPlane_147 : decode cX9_nearPlane 147 = .ok (.iload 5, 2) := by decide +kernel
theorem dX9_nearPlane_149 : decode cX9_nearPlane 149 = .ok (.i2l, 1) := by decide +kernel
theorem dX9_nearPlane_150 : decode cX9_nearPlane 150 = .ok (.lload 18, 2) := by decide +kernel
theorem dX9_nearPlane_152 : decode cX9_nearPlane 152 = .ok (.lconst 0, 1) := by decide +kernel
theorem dX9_nearPlane_153 : decode cX9_nearPlane 153 = .ok (.lcmp, 1) := by decide +kernel
theorem dX9_nearPlane_154 : decode cX9_nearPlane 154 = .ok (.ifCond .ge 9, 3) := by decide +kernel
theorem dX9_nearPlane_157 : decode cX9_nearPlane 157 = .ok (.lload 18, 2) := by decide +kernel
theorem dX9_nearPlane_159 : decode cX9_nearPlane 159 = .ok (.lneg, 1) := by decide +kernel
theorem dX9_nearPlane_160 : decode cX9_nearPlane 160 = .ok (.goto 5, 3) := by decide +kernel
theorem dX9_nearPlane_163 : decode cX9_nearPlane 163 = .ok (.lload 18, 2) := by decide +kernel
theorem dX9_nearPlane_165 : decode cX9_nearPlane 165 = .ok (.lmul, 1) := by decide +kernel
theorem dX9_nearPlane_166 : decode cX9_nearPlane 166 = .ok (.lstore 24, 2) := by decide +kernel
theorem dX9_nearPlane_168 : decode cX9_nearPlane 168 = .ok (.iconst 0, 1) := by decide +kernel
theorem dX9_nearPlane_169 : decode cX9_nearPlane 169 = .ok (.istore 26, 2) := by decide +kernel
theorem dX9_nearPlane_171 : decode cX9_nearPlane 171 = .ok (.iconst 0, 1) := by decide +kernel
theorem dX9_nearPlane_172 : decode cX9_nearPlane 172 = .ok (.istore 27, 2) := by decide +kernel
theorem dX9_nearPlane_174 : decode cX9_nearPlane 174 = .ok (.iload 27, 2) := by decide +kernel
theorem dX9_nearPlane_176 : decode cX9_nearPlane 176 = .ok (.aload_n 0, 1) := by decide +kernel
theorem dX9_nearPlane_177 : decode cX9_nearPlane 177 = .ok (.getfield 185, 3) := by decide +kernel
theorem dX9_nearPlane_180 : decode cX9_nearPlane 180 = .ok (.if_icmp .ge 113, 3) := by decide +kernel
theorem dX9_nearPlane_183 : decode cX9_nearPlane 183 = .ok (.aload_n 0, 1) := by decide +kernel
theorem dX9_nearPlane_184 : decode cX9_nearPlane 184 = .ok (.getfield 63, 3) := by decide +kernel
theorem dX9_nearPlane_187 : decode cX9_nearPlane 187 = .ok (.iload 27, 2) := by decide +kernel
theorem dX9_nearPlane_189 : decode cX9_nearPlane 189 = .ok (.iaload, 1) := by decide +kernel
theorem dX9_nearPlane_190 : decode cX9_nearPlane 190 = .ok (.istore 28, 2) := by decide +kernel
theorem dX9_nearPlane_192 : decode cX9_nearPlane 192 = .ok (.aload_n 0, 1) := by decide +kernel
theorem dX9_nearPlane_193 : decode cX9_nearPlane 193 = .ok (.iload_n 1, 1) := by decide +kernel
theorem dX9_nearPlane_194 : decode cX9_nearPlane 194 = .ok (.iload 28, 2) := by decide +kernel
theorem dX9_nearPlane_196 : decode cX9_nearPlane 196 = .ok (.invokevirtual 128, 3) := by decide +kernel
theorem dX9_nearPlane_199 : decode cX9_nearPlane 199 = .ok (.aload_n 0, 1) := by decide +kernel
theorem dX9_nearPlane_200 : decode cX9_nearPlane 200 = .ok (.iload_n 1, 1) := by decide +kernel
theorem dX9_nearPlane_201 : decode cX9_nearPlane 201 = .ok (.iload_n 2, 1) := by decide +kernel
theorem dX9_nearPlane_202 : decode cX9_nearPlane 202 = .ok (.invokevirtual 128, 3) := by decide +kernel
theorem dX9_nearPlane_205 : decode cX9_nearPlane 205 = .ok (.isub, 1) := by decide +kernel
theorem dX9_nearPlane_206 : decode cX9_nearPlane 206 = .ok (.i2l, 1) := by decide +kernel
theorem dX9_nearPlane_207 : decode cX9_nearPlane 207 = .ok (.lload 18, 2) := by decide +kernel
theorem dX9_nearPlane_209 : decode cX9_nearPlane 209 = .ok (.lmul, 1) := by decide +kernel
theorem dX9_nearPlane_210 : decode cX9_nearPlane 210 = .ok (.lload 20, 2) := by decide +kernel
theorem dX9_nearPlane_212 : decode cX9_nearPlane 212 = .ok (.aload_n 0, 1) := by decide +kernel
theorem dX9_nearPlane_213 : decode cX9_nearPlane 213 = .ok (.getfield 25, 3) := by decide +kernel
theorem dX9_nearPlane_216 : decode cX9_nearPlane 216 = .ok (.iload 28, 2) := by decide +kernel
theorem dX9_nearPlane_218 : decode cX9_nearPlane 218 = .ok (.iaload, 1) := by decide +kernel
theorem dX9_nearPlane_219 : decode cX9_nearPlane 219 = .ok (.aload_n 0, 1) := by decide +kernel
theorem dX9_nearPlane_220 : decode cX9_nearPlane 220 = .ok (.getfield 25, 3) := by decide +kernel
theorem dX9_nearPlane_223 : decode cX9_nearPlane 223 = .ok (.iload_n 2, 1) := by decide +kernel
theorem dX9_nearPlane_224 : decode cX9_nearPlane 224 = .ok (.iaload, 1) := by decide +kernel
theorem dX9_nearPlane_225 : decode cX9_nearPlane 225 = .ok (.isub, 1) := by decide +kernel
theorem dX9_nearPlane_226 : decode cX9_nearPlane 226 = .ok (.i2l, 1) := by decide +kernel
theorem dX9_nearPlane_227 : decode cX9_nearPlane 227 = .ok (.lmul, 1) := by decide +kernel
theorem dX9_nearPlane_228 : decode cX9_nearPlane 228 = .ok (.lsub, 1) := by decide +kernel
theorem dX9_nearPlane_229 : decode cX9_nearPlane 229 = .ok (.lload 22, 2) := by decide +kernel
theorem dX9_nearPlane_231 : decode cX9_nearPlane 231 = .ok (.aload_n 0, 1) := by decide +kernel
theorem dX9_nearPlane_232 : decode cX9_nearPlane 232 = .ok (.getfield 28, 3) := by decide +kernel
theorem dX9_nearPlane_235 : decode cX9_nearPlane 235 = .ok (.iload 28, 2) := by decide +kernel
theorem dX9_nearPlane_237 : decode cX9_nearPlane 237 = .ok (.iaload, 1) := by decide +kernel
theorem dX9_nearPlane_238 : decode cX9_nearPlane 238 = .ok (.aload_n 0, 1) := by decide +kernel
theorem dX9_nearPlane_239 : decode cX9_nearPlane 239 = .ok (.getfield 28, 3) := by decide +kernel
theorem dX9_nearPlane_242 : decode cX9_nearPlane 242 = .ok (.iload_n 2, 1) := by decide +kernel
theorem dX9_nearPlane_243 : decode cX9_nearPlane 243 = .ok (.iaload, 1) := by decide +kernel
theorem dX9_nearPlane_244 : decode cX9_nearPlane 244 = .ok (.isub, 1) := by decide +kernel
theorem dX9_nearPlane_245 : decode cX9_nearPlane 245 = .ok (.i2l, 1) := by decide +kernel
theorem dX9_nearPlane_246 : decode cX9_nearPlane 246 = .ok (.lmul, 1) := by decide +kernel
theorem dX9_nearPlane_247 : decode cX9_nearPlane 247 = .ok (.lsub, 1) := by decide +kernel
theorem dX9_nearPlane_248 : decode cX9_nearPlane 248 = .ok (.lstore 29, 2) := by decide +kernel
theorem dX9_nearPlane_250 : decode cX9_nearPlane 250 = .ok (.aload_n 0, 1) := by decide +kernel
theorem dX9_nearPlane_251 : decode cX9_nearPlane 251 = .ok (.getfield 66, 3) := by decide +kernel
theorem dX9_nearPlane_254 : decode cX9_nearPlane 254 = .ok (.iload 27, 2) := by decide +kernel
theorem dX9_nearPlane_256 : decode cX9_nearPlane 256 = .ok (.lload 29, 2) := by decide +kernel
theorem dX9_nearPlane_258 : decode cX9_nearPlane 258 = .ok (.lload 24, 2) := by decide +kernel
theorem dX9_nearPlane_260 : decode cX9_nearPlane 260 = .ok (.lneg, 1) := by decide +kernel
theorem dX9_nearPlane_261 : decode cX9_nearPlane 261 = .ok (.lload 24, 2) := by decide +kernel
theorem dX9_nearPlane_263 : decode cX9_nearPlane 263 = .ok (.invokestatic 89, 3) := by decide +kernel
theorem dX9_nearPlane_266 : decode cX9_nearPlane 266 = .ok (.bastore, 1) := by decide +kernel
theorem dX9_nearPlane_267 : decode cX9_nearPlane 267 = .ok (.iload 26, 2) := by decide +kernel
theorem dX9_nearPlane_269 : decode cX9_nearPlane 269 = .ok (.aload_n 0, 1) := by decide +kernel
theorem dX9_nearPlane_270 : decode cX9_nearPlane 270 = .ok (.getfield 66, 3) := by decide +kernel
theorem dX9_nearPlane_273 : decode cX9_nearPlane 273 = .ok (.iload 27, 2) := by decide +kernel
theorem dX9_nearPlane_275 : decode cX9_nearPlane 275 = .ok (.baload, 1) := by decide +kernel
theorem dX9_nearPlane_276 : decode cX9_nearPlane 276 = .ok (.ifCond .eq 7, 3) := by decide +kernel
theorem dX9_nearPlane_279 : decode cX9_nearPlane 279 = .ok (.iconst 1, 1) := by decide +kernel
theorem dX9_nearPlane_280 : decode cX9_nearPlane 280 = .ok (.goto 4, 3) := by decide +kernel
theorem dX9_nearPlane_283 : decode cX9_nearPlane 283 = .ok (.iconst 0, 1) := by decide +kernel
theorem dX9_nearPlane_284 : decode cX9_nearPlane 284 = .ok (.iadd, 1) := by decide +kernel
theorem dX9_nearPlane_285 : decode cX9_nearPlane 285 = .ok (.istore 26, 2) := by decide +kernel
theorem dX9_nearPlane_287 : decode cX9_nearPlane 287 = .ok (.iinc 27 1, 3) := by decide +kernel
theorem dX9_nearPlane_290 : decode cX9_nearPlane 290 = .ok (.goto (-116), 3) := by decide +kernel
theorem dX9_nearPlane_293 : decode cX9_nearPlane 293 = .ok (.iload 26, 2) := by decide +kernel
theorem dX9_nearPlane_295 : decode cX9_nearPlane 295 = .ok (.ireturn, 1) := by decide +kernel
theorem dX9_findRoof_0 : decode cX9_findRoof 0 = .ok (.iconst 0, 1) := by decide +kernel
theorem dX9_findRoof_1 : decode cX9_findRoof 1 = .ok (.istore 5, 2) := by decide +kernel
theorem dX9_findRoof_3 : decode cX9_findRoof 3 = .ok (.iconst 0, 1) := by decide +kernel
theorem dX9_findRoof_4 : decode cX9_findRoof 4 = .ok (.istore 6, 2) := by decide +kernel
theorem dX9_findRoof_6 : decode cX9_findRoof 6 = .ok (.iconst 0, 1) := by decide +kernel
theorem dX9_findRoof_7 : decode cX9_findRoof 7 = .ok (.istore 7, 2) := by decide +kernel
theorem dX9_findRoof_9 : decode cX9_findRoof 9 = .ok (.iconst 0, 1) := by decide +kernel
theorem dX9_findRoof_10 : decode cX9_findRoof 10 = .ok (.istore 8, 2) := by decide +kernel
theorem dX9_findRoof_12 : decode cX9_findRoof 12 = .ok (.iconst 0, 1) := by decide +kernel
theorem dX9_findRoof_13 : decode cX9_findRoof 13 = .ok (.istore 9, 2) := by decide +kernel
theorem dX9_findRoof_15 : decode cX9_findRoof 15 = .ok (.iload 9, 2) := by decide +kernel
theorem dX9_findRoof_17 : decode cX9_findRoof 17 = .ok (.aload_n 0, 1) := by decide +kernel
theorem dX9_findRoof_18 : decode cX9_findRoof 18 = .ok (.getfield 185, 3) := by decide +kernel
theorem dX9_findRoof_21 : decode cX9_findRoof 21 = .ok (.if_icmp .ge 118, 3) := by decide +kernel
theorem dX9_findRoof_24 : decode cX9_findRoof 24 = .ok (.iload 9, 2) := by decide +kernel
theorem dX9_findRoof_26 : decode cX9_findRoof 26 = .ok (.iconst 1, 1) := by decide +kernel
theorem dX9_findRoof_27 : decode cX9_findRoof 27 = .ok (.iadd, 1) := by decide +kernel
theorem dX9_findRoof_28 : decode cX9_findRoof 28 = .ok (.istore 10, 2) := by decide +kernel
theorem dX9_findRoof_30 : decode cX9_findRoof 30 = .ok (.iload 10, 2) := by decide +kernel
theorem dX9_findRoof_32 : decode cX9_findRoof 32 = .ok (.aload_n 0, 1) := by decide +kernel
theorem dX9_findRoof_33 : decode cX9_findRoof 33 = .ok (.getfield 185, 3) := by decide +kernel
theorem dX9_findRoof_36 : decode cX9_findRoof 36 = .ok (.if_icmp .ge 97, 3) := by decide +kernel
theorem dX9_findRoof_39 : decode cX9_findRoof 39 = .ok (.iload 10, 2) := by decide +kernel
theorem dX9_findRoof_41 : decode cX9_findRoof 41 = .ok (.iconst 1, 1) := by decide +kernel
theorem dX9_findRoof_42 : decode cX9_findRoof 42 = .ok (.iadd, 1) := by decide +kernel
theorem dX9_findRoof_43 : decode cX9_findRoof 43 = .ok (.istore 11, 2) := by decide +kernel
theorem dX9_findRoof_45 : decode cX9_findRoof 45 = .ok (.iload 11, 2) := by decide +kernel
theorem dX9_findRoof_47 : decode cX9_findRoof 47 = .ok (.aload_n 0, 1) := by decide +kernel
theorem dX9_findRoof_48 : decode cX9_findRoof 48 = .ok (.getfield 185, 3) := by decide +kernel
theorem dX9_findRoof_51 : decode cX9_findRoof 51 = .ok (.if_icmp .ge 76, 3) := by decide +kernel
theorem dX9_findRoof_54 : decode cX9_findRoof 54 = .ok (.aload_n 0, 1) := by decide +kernel
theorem dX9_findRoof_55 : decode cX9_findRoof 55 = .ok (.iload_n 1, 1) := by decide +kernel
theorem dX9_findRoof_56 : decode cX9_findRoof 56 = .ok (.aload_n 0, 1) := by decide +kernel
theorem dX9_findRoof_57 : decode cX9_findRoof 57 = .ok (.getfield 63, 3) := by decide +kernel
theorem dX9_findRoof_60 : decode cX9_findRoof 60 = .ok (.iload 9, 2) := by decide +kernel
theorem dX9_findRoof_62 : decode cX9_findRoof 62 = .ok (.iaload, 1) := by decide +kernel
theorem dX9_findRoof_63 : decode cX9_findRoof 63 = .ok (.aload_n 0, 1) := by decide +kernel
theorem dX9_findRoof_64 : decode cX9_findRoof 64 = .ok (.getfield 63, 3) := by decide +kernel
theorem dX9_findRoof_67 : decode cX9_findRoof 67 = .ok (.iload 10, 2) := by decide +kernel
theorem dX9_findRoof_69 : decode cX9_findRoof 69 = .ok (.iaload, 1) := by decide +kernel
theorem dX9_findRoof_70 : decode cX9_findRoof 70 = .ok (.aload_n 0, 1) := by decide +kernel
theorem dX9_findRoof_71 : decode cX9_findRoof 71 = .ok (.getfield 63, 3) := by decide +kernel
theorem dX9_findRoof_74 : decode cX9_findRoof 74 = .ok (.iload 11, 2) := by decide +kernel
theorem dX9_findRoof_76 : decode cX9_findRoof 76 = .ok (.iaload, 1) := by decide +kernel
theorem dX9_findRoof_77 : decode cX9_findRoof 77 = .ok (.iload_n 2, 1) := by decide +kernel
theorem dX9_findRoof_78 : decode cX9_findRoof 78 = .ok (.invokevirtual 189, 3) := by decide +kernel
theorem dX9_findRoof_81 : decode cX9_findRoof 81 = .ok (.istore 12, 2) := by decide +kernel
theorem dX9_findRoof_83 : decode cX9_findRoof 83 = .ok (.iload 12, 2) := by decide +kernel
theorem dX9_findRoof_85 : decode cX9_findRoof 85 = .ok (.iload 5, 2) := by decide +kernel
theorem dX9_findRoof_87 : decode cX9_findRoof 87 = .ok (.if_icmp .le 34, 3) := by decide +kernel
theorem dX9_findRoof_90 : decode cX9_findRoof 90 = .ok (.iload 12, 2) := by decide +kernel
theorem dX9_findRoof_92 : decode cX9_findRoof 92 = .ok (.istore 5, 2) := by decide +kernel
theorem dX9_findRoof_94 : decode cX9_findRoof 94 = .ok (.aload_n 0, 1) := by decide +kernel
theorem dX9_findRoof_95 : decode cX9_findRoof 95 = .ok (.getfield 63, 3) := by decide +kernel
theorem dX9_findRoof_98 : decode cX9_findRoof 98 = .ok (.iload 9, 2) := by decide +kernel
theorem dX9_findRoof_100 : decode cX9_findRoof 100 = .ok (.iaload, 1) := by decide +kernel
theorem dX9_findRoof_101 : decode cX9_findRoof 101 = .ok (.istore 6, 2) := by decide +kernel
theorem dX9_findRoof_103 : decode cX9_findRoof 103 = .ok (.aload_n 0, 1) := by decide +kernel
theorem dX9_findRoof_104 : decode cX9_findRoof 104 = .ok (.getfield 63, 3) := by decide +kernel
theorem dX9_findRoof_107 : decode cX9_findRoof 107 = .ok (.iload 10, 2) := by decide +kernel
theorem dX9_findRoof_109 : decode cX9_findRoof 109 = .ok (.iaload, 1) := by decide +kernel
theorem dX9_findRoof_110 : decode cX9_findRoof 110 = .ok (.istore 7, 2) := by decide +kernel
theorem dX9_findRoof_112 : decode cX9_findRoof 112 = .ok (.aload_n 0, 1) := by decide +kernel
theorem dX9_findRoof_113 : decode cX9_findRoof 113 = .ok (.getfield 63, 3) := by decide +kernel
theorem dX9_findRoof_116 : decode cX9_findRoof 116 = .ok (.iload 11, 2) := by decide +kernel
theorem dX9_findRoof_118 : decode cX9_findRoof 118 = .ok (.iaload, 1) := by decide +kernel
theorem dX9_findRoof_119 : decode cX9_findRoof 119 = .ok (.istore 8, 2) := by decide +kernel
theorem dX9_findRoof_121 : decode cX9_findRoof 121 = .ok (.iinc 11 1, 3) := by decide +kernel
theorem dX9_findRoof_124 : decode cX9_findRoof 124 = .ok (.goto (-79), 3) := by decide +kernel
theorem dX9_findRoof_127 : decode cX9_findRoof 127 = .ok (.iinc 10 1, 3) := by decide +kernel
theorem dX9_findRoof_130 : decode cX9_findRoof 130 = .ok (.goto (-100), 3) := by decide +kernel
theorem dX9_findRoof_133 : decode cX9_findRoof 133 = .ok (.iinc 9 1, 3) := by decide +kernel
theorem dX9_findRoof_136 : decode cX9_findRoof 136 = .ok (.goto (-121), 3) := by decide +kernel
theorem dX9_findRoof_139 : decode cX9_findRoof 139 = .ok (.iload 5, 2) := by decide +kernel
theorem dX9_findRoof_141 : decode cX9_findRoof 141 = .ok (.iload_n 3, 1) := by decide +kernel
theorem dX9_findRoof_142 : decode cX9_findRoof 142 = .ok (.if_icmp .ge 5, 3) := by decide +kernel
theorem dX9_findRoof_145 : decode cX9_findRoof 145 = .ok (.iconst 0, 1) := by decide +kernel
theorem dX9_findRoof_146 : decode cX9_findRoof 146 = .ok (.ireturn, 1) := by decide +kernel
theorem dX9_findRoof_147 : decode cX9_findRoof 147 = .ok (.aload_n 0, 1) := by decide +kernel
theorem dX9_findRoof_148 : decode cX9_findRoof 148 = .ok (.iload_n 1, 1) := by decide +kernel
theorem dX9_findRoof_149 : decode cX9_findRoof 149 = .ok (.iload 6, 2) := by decide +kernel
theorem dX9_findRoof_151 : decode cX9_findRoof 151 = .ok (.iload 7, 2) := by decide +kernel
theorem dX9_findRoof_153 : decode cX9_findRoof 153 = .ok (.iload 8, 2) := by decide +kernel
theorem dX9_findRoof_155 : decode cX9_findRoof 155 = .ok (.iload_n 2, 1) := by decide +kernel
theorem dX9_findRoof_156 : decode cX9_findRoof 156 = .ok (.invokevirtual 189, 3) := by decide +kernel
theorem dX9_findRoof_159 : decode cX9_findRoof 159 = .ok (.istore 9, 2) := by decide +kernel
theorem dX9_findRoof_161 : decode cX9_findRoof 161 = .ok (.iconst 0, 1) := by decide +kernel
theorem dX9_findRoof_162 : decode cX9_findRoof 162 = .ok (.istore 10, 2) := by decide +kernel
theorem dX9_findRoof_164 : decode cX9_findRoof 164 = .ok (.iconst 0, 1) := by decide +kernel
theorem dX9_findRoof_165 : decode cX9_findRoof 165 = .ok (.istore 11, 2) := by decide +kernel
theorem dX9_findRoof_167 : decode cX9_findRoof 167 = .ok (.iload 11, 2) := by decide +kernel
theorem dX9_findRoof_169 : decode cX9_findRoof 169 = .ok (.aload_n 0, 1) := by decide +kernel
theorem dX9_findRoof_170 : decode cX9_findRoof 170 = .ok (.getfield 185, 3) := by decide +kernel
theorem dX9_findRoof_173 : decode cX9_findRoof 173 = .ok (.if_icmp .ge 53, 3) := by decide +kernel
theorem dX9_findRoof_176 : decode cX9_findRoof 176 = .ok (.aload_n 0, 1) := by decide +kernel
theorem dX9_findRoof_177 : decode cX9_findRoof 177 = .ok (.getfield 66, 3) := by decide +kernel
theorem dX9_findRoof_180 : decode cX9_findRoof 180 = .ok (.iload 11, 2) := by decide +kernel
theorem dX9_findRoof_182 : decode cX9_findRoof 182 = .ok (.baload, 1) := by decide +kernel
theorem dX9_findRoof_183 : decode cX9_findRoof 183 = .ok (.ifCond .eq 20, 3) := by decide +kernel
theorem dX9_findRoof_186 : decode cX9_findRoof 186 = .ok (.aload_n 0, 1) := by decide +kernel
theorem dX9_findRoof_187 : decode cX9_findRoof 187 = .ok (.getfield 37, 3) := by decide +kernel
theorem dX9_findRoof_190 : decode cX9_findRoof 190 = .ok (.aload_n 0, 1) := by decide +kernel
theorem dX9_findRoof_191 : decode cX9_findRoof 191 = .ok (.getfield 63, 3) := by decide +kernel
theorem dX9_findRoof_194 : decode cX9_findRoof 194 = .ok (.iload 11, 2) := by decide +kernel
theorem dX9_findRoof_196 : decode cX9_findRoof 196 = .ok (.iaload, 1) := by decide +kernel
theorem dX9_findRoof_197 : decode cX9_findRoof 197 = .ok (.iload 4, 2) := by decide +kernel
theorem dX9_findRoof_199 : decode cX9_findRoof 199 = .ok (.iastore, 1) := by decide +kernel
theorem dX9_findRoof_200 : decode cX9_findRoof 200 = .ok (.goto 20, 3) := by decide +kernel
theorem dX9_findRoof_203 : decode cX9_findRoof 203 = .ok (.aload_n 0, 1) := by decide +kernel
theorem dX9_findRoof_204 : decode cX9_findRoof 204 = .ok (.getfield 63, 3) := by decide +kernel
theorem dX9_findRoof_207 : decode cX9_findRoof 207 = .ok (.iload 10, 2) := by decide +kernel
theorem dX9_findRoof_209 : decode cX9_findRoof 209 = .ok (.aload_n 0, 1) := by decide +kernel
theorem dX9_findRoof_210 : decode cX9_findRoof 210 = .ok (.getfield 63, 3) := by decide +kernel
theorem dX9_findRoof_213 : decode cX9_findRoof 213 = .ok (.iload 11, 2) := by decide +kernel
theorem dX9_findRoof_215 : decode cX9_findRoof 215 = .ok (.iaload, 1) := by decide +kernel
theorem dX9_findRoof_216 : decode cX9_findRoof 216 = .ok (.iastore, 1) := by decide +kernel
theorem dX9_findRoof_217 : decode cX9_findRoof 217 = .ok (.iinc 10 1, 3) := by decide +kernel
theorem dX9_findRoof_220 : decode cX9_findRoof 220 = .ok (.iinc 11 1, 3) := by decide +kernel
theorem dX9_findRoof_223 : decode cX9_findRoof 223 = .ok (.goto (-56), 3) := by decide +kernel
theorem dX9_findRoof_226 : decode cX9_findRoof 226 = .ok (.aload_n 0, 1) := by decide +kernel
theorem dX9_findRoof_227 : decode cX9_findRoof 227 = .ok (.iload 10, 2) := by decide +kernel
theorem dX9_findRoof_229 : decode cX9_findRoof 229 = .ok (.putfield 185, 3) := by decide +kernel
theorem dX9_findRoof_232 : decode cX9_findRoof 232 = .ok (.iconst 1, 1) := by decide +kernel
theorem dX9_findRoof_233 : decode cX9_findRoof 233 = .ok (.ireturn, 1) := by decide +kernel
theorem dX9_isRoofing_0 : decode cX9_isRoofing 0 = .ok (.iload_n 0, 1) := by decide +kernel
theorem dX9_isRoofing_1 : decode cX9_isRoofing 1 = .ok (.i2l, 1) := by decide +kernel
theorem dX9_isRoofing_2 : decode cX9_isRoofing 2 = .ok (.lconst 0, 1) := by decide +kernel
theorem dX9_isRoofing_3 : decode cX9_isRoofing 3 = .ok (.ldc2_w 193, 3) := by decide +kernel
theorem dX9_isRoofing_6 : decode cX9_isRoofing 6 = .ok (.invokestatic 89, 3) := by decide +kernel
theorem dX9_isRoofing_9 : decode cX9_isRoofing 9 = .ok (.ifCond .eq 21, 3) := by decide +kernel
theorem dX9_isRoofing_12 : decode cX9_isRoofing 12 = .ok (.iload_n 1, 1) := by decide +kernel
theorem dX9_isRoofing_13 : decode cX9_isRoofing 13 = .ok (.i2l, 1) := by decide +kernel
theorem dX9_isRoofing_14 : decode cX9_isRoofing 14 = .ok (.ldc2_w 87, 3) := by decide +kernel
theorem dX9_isRoofing_17 : decode cX9_isRoofing 17 = .ok (.ldc2_w 195, 3) := by decide +kernel
theorem dX9_isRoofing_20 : decode cX9_isRoofing 20 = .ok (.invokestatic 89, 3) := by decide +kernel
theorem dX9_isRoofing_23 : decode cX9_isRoofing 23 = .ok (.ifCond .eq 7, 3) := by decide +kernel
theorem dX9_isRoofing_26 : decode cX9_isRoofing 26 = .ok (.iconst 1, 1) := by decide +kernel
theorem dX9_isRoofing_27 : decode cX9_isRoofing 27 = .ok (.goto 4, 3) := by decide +kernel
theorem dX9_isRoofing_30 : decode cX9_isRoofing 30 = .ok (.iconst 0, 1) := by decide +kernel
theorem dX9_isRoofing_31 : decode cX9_isRoofing 31 = .ok (.ireturn, 1) := by decide +kernel
theorem dX9_roofs_0 : decode cX9_roofs 0 = .ok (.iload_n 1, 1) := by decide +kernel
theorem dX9_roofs_1 : decode cX9_roofs 1 = .ok (.invokestatic 116, 3) := by decide +kernel
theorem dX9_roofs_4 : decode cX9_roofs 4 = .ok (.ifCond .eq 11, 3) := by decide +kernel
theorem dX9_roofs_7 : decode cX9_roofs 7 = .ok (.iload_n 2, 1) := by decide +kernel
theorem dX9_roofs_8 : decode cX9_roofs 8 = .ok (.iload_n 3, 1) := by decide +kernel
theorem dX9_roofs_9 : decode cX9_roofs 9 = .ok (.invokestatic 197, 3) := by decide +kernel
theorem dX9_roofs_12 : decode cX9_roofs 12 = .ok (.ifCond .ne 5, 3) := by decide +kernel
theorem dX9_roofs_15 : decode cX9_roofs 15 = .ok (.iconst (-1), 1) := by decide +kernel
theorem dX9_roofs_16 : decode cX9_roofs 16 = .ok (.ireturn, 1) := by decide +kernel
theorem dX9_roofs_17 : decode cX9_roofs 17 = .ok (.iconst 0, 1) := by decide +kernel
theorem dX9_roofs_18 : decode cX9_roofs 18 = .ok (.istore 4, 2) := by decide +kernel
theorem dX9_roofs_20 : decode cX9_roofs 20 = .ok (.bipush 100, 2) := by decide +kernel
theorem dX9_roofs_22 : decode cX9_roofs 22 = .ok (.iload_n 1, 1) := by decide +kernel
theorem dX9_roofs_23 : decode cX9_roofs 23 = .ok (.imul, 1) := by decide +kernel
theorem dX9_roofs_24 : decode cX9_roofs 24 = .ok (.istore 5, 2) := by decide +kernel
theorem dX9_roofs_26 : decode cX9_roofs 26 = .ok (.iload 5, 2) := by decide +kernel
theorem dX9_roofs_28 : decode cX9_roofs 28 = .ok (.aload_n 0, 1) := by decide +kernel
theorem dX9_roofs_29 : decode cX9_roofs 29 = .ok (.iload_n 1, 1) := by decide +kernel
theorem dX9_roofs_30 : decode cX9_roofs 30 = .ok (.invokevirtual 133, 3) := by decide +kernel
theorem dX9_roofs_33 : decode cX9_roofs 33 = .ok (.if_icmp .ge 40, 3) := by decide +kernel
theorem dX9_roofs_36 : decode cX9_roofs 36 = .ok (.iload 4, 2) := by decide +kernel
theorem dX9_roofs_38 : decode cX9_roofs 38 = .ok (.aload_n 0, 1) := by decide +kernel
theorem dX9_roofs_39 : decode cX9_roofs 39 = .ok (.getfield 37, 3) := by decide +kernel
theorem dX9_roofs_42 : decode cX9_roofs 42 = .ok (.iload 5, 2) := by decide +kernel
theorem dX9_roofs_44 : decode cX9_roofs 44 = .ok (.iaload, 1) := by decide +kernel
theorem dX9_roofs_45 : decode cX9_roofs 45 = .ok (.iconst 2, 1) := by decide +kernel
theorem dX9_roofs_46 : decode cX9_roofs 46 = .ok (.if_icmp .lt 17, 3) := by decide +kernel
theorem dX9_roofs_49 : decode cX9_roofs 49 = .ok (.aload_n 0, 1) := by decide +kernel
theorem dX9_roofs_50 : decode cX9_roofs 50 = .ok (.getfield 40, 3) := by decide +kernel
theorem dX9_roofs_53 : decode cX9_roofs 53 = .ok (.iload 5, 2) := by decide +kernel
theorem dX9_roofs_55 : decode cX9_roofs 55 = .ok (.iaload, 1) := by decide +kernel
theorem dX9_roofs_56 : decode cX9_roofs 56 = .ok (.ifCond .ne 7, 3) := by decide +kernel
theorem dX9_roofs_59 : decode cX9_roofs 59 = .ok (.iconst 1, 1) := by decide +kernel
theorem dX9_roofs_60 : decode cX9_roofs 60 = .ok (.goto 4, 3) := by decide +kernel
theorem dX9_roofs_63 : decode cX9_roofs 63 = .ok (.iconst 0, 1) := by decide +kernel
theorem dX9_roofs_64 : decode cX9_roofs 64 = .ok (.iadd, 1) := by decide +kernel
theorem dX9_roofs_65 : decode cX9_roofs 65 = .ok (.istore 4, 2) := by decide +kernel
theorem dX9_roofs_67 : decode cX9_roofs 67 = .ok (.iinc 5 1, 3) := by decide +kernel
theorem dX9_roofs_70 : decode cX9_roofs 70 = .ok (.goto (-44), 3) := by decide +kernel
theorem dX9_roofs_73 : decode cX9_roofs 73 = .ok (.iload 4, 2) := by decide +kernel
theorem dX9_roofs_75 : decode cX9_roofs 75 = .ok (.bipush 40, 2) := by decide +kernel
theorem dX9_roofs_77 : decode cX9_roofs 77 = .ok (.if_icmp .le 6, 3) := by decide +kernel
theorem dX9_roofs_80 : decode cX9_roofs 80 = .ok (.bipush (-3), 2) := by decide +kernel
theorem dX9_roofs_82 : decode cX9_roofs 82 = .ok (.ireturn, 1) := by decide +kernel
theorem dX9_roofs_83 : decode cX9_roofs 83 = .ok (.aload_n 0, 1) := by decide +kernel
theorem dX9_roofs_84 : decode cX9_roofs 84 = .ok (.iconst 0, 1) := by decide +kernel
theorem dX9_roofs_85 : decode cX9_roofs 85 = .ok (.putfield 185, 3) := by decide +kernel
theorem dX9_roofs_88 : decode cX9_roofs 88 = .ok (.bipush 100, 2) := by decide +kernel
theorem dX9_roofs_90 : decode cX9_roofs 90 = .ok (.iload_n 1, 1) := by decide +kernel
theorem dX9_roofs_91 : decode cX9_roofs 91 = .ok (.imul, 1) := by decide +kernel
theorem dX9_roofs_92 : decode cX9_roofs 92 = .ok (.istore 5, 2) := by decide +kernel
theorem dX9_roofs_94 : decode cX9_roofs 94 = .ok (.iload 5, 2) := by decide +kernel
theorem dX9_roofs_96 : decode cX9_roofs 96 = .ok (.aload_n 0, 1) := by decide +kernel
theorem dX9_roofs_97 : decode cX9_roofs 97 = .ok (.iload_n 1, 1) := by decide +kernel
theorem dX9_roofs_98 : decode cX9_roofs 98 = .ok (.invokevirtual 133, 3) := by decide +kernel
theorem dX9_roofs_101 : decode cX9_roofs 101 = .ok (.if_icmp .ge 59, 3) := by decide +kernel
theorem dX9_roofs_104 : decode cX9_roofs 104 = .ok (.aload_n 0, 1) := by decide +kernel
theorem dX9_roofs_105 : decode cX9_roofs 105 = .ok (.getfield 37, 3) := by decide +kernel
theorem dX9_roofs_108 : decode cX9_roofs 108 = .ok (.iload 5, 2) := by decide +kernel
theorem dX9_roofs_110 : decode cX9_roofs 110 = .ok (.iaload, 1) := by decide +kernel
theorem dX9_roofs_111 : decode cX9_roofs 111 = .ok (.iconst 2, 1) := by decide +kernel
theorem dX9_roofs_112 : decode cX9_roofs 112 = .ok (.if_icmp .lt 42, 3) := by decide +kernel
theorem dX9_roofs_115 : decode cX9_roofs 115 = .ok (.aload_n 0, 1) := by decide +kernel
theorem dX9_roofs_116 : decode cX9_roofs 116 = .ok (.getfield 40, 3) := by decide +kernel
theorem dX9_roofs_119 : decode cX9_roofs 119 = .ok (.iload 5, 2) := by decide +kernel
theorem dX9_roofs_121 : decode cX9_roofs 121 = .ok (.iaload, 1) := by decide +kernel
theorem dX9_roofs_122 : decode cX9_roofs 122 = .ok (.ifCond .ne 32, 3) := by decide +kernel
theorem dX9_roofs_125 : decode cX9_roofs 125 = .ok (.aload_n 0, 1) := by decide +kernel
theorem dX9_roofs_126 : decode cX9_roofs 126 = .ok (.getfield 37, 3) := by decide +kernel
theorem dX9_roofs_129 : decode cX9_roofs 129 = .ok (.iload 5, 2) := by decide +kernel
theorem dX9_roofs_131 : decode cX9_roofs 131 = .ok (.iconst 2, 1) := by decide +kernel
theorem dX9_roofs_132 : decode cX9_roofs 132 = .ok (.iastore, 1) := by decide +kernel
theorem dX9_roofs_133 : decode cX9_roofs 133 = .ok (.aload_n 0, 1) := by decide +kernel
theorem dX9_roofs_134 : decode cX9_roofs 134 = .ok (.getfield 63, 3) := by decide +kernel
theorem dX9_roofs_137 : decode cX9_roofs 137 = .ok (.aload_n 0, 1) := by decide +kernel
theorem dX9_roofs_138 : decode cX9_roofs 138 = .ok (.getfield 185, 3) := by decide +kernel
theorem dX9_roofs_141 : decode cX9_roofs 141 = .ok (.iload 5, 2) := by decide +kernel
theorem dX9_roofs_143 : decode cX9_roofs 143 = .ok (.iastore, 1) := by decide +kernel
theorem dX9_roofs_144 : decode cX9_roofs 144 = .ok (.aload_n 0, 1) := by decide +kernel
theorem dX9_roofs_145 : decode cX9_roofs 145 = .ok (.dup, 1) := by decide +kernel
theorem dX9_roofs_146 : decode cX9_roofs 146 = .ok (.getfield 185, 3) := by decide +kernel
theorem dX9_roofs_149 : decode cX9_roofs 149 = .ok (.iconst 1, 1) := by decide +kernel
theorem dX9_roofs_150 : decode cX9_roofs 150 = .ok (.iadd, 1) := by decide +kernel
theorem dX9_roofs_151 : decode cX9_roofs 151 = .ok (.putfield 185, 3) := by decide +kernel
theorem dX9_roofs_154 : decode cX9_roofs 154 = .ok (.iinc 5 1, 3) := by decide +kernel
theorem dX9_roofs_157 : decode cX9_roofs 157 = .ok (.goto (-63), 3) := by decide +kernel
theorem dX9_roofs_160 : decode cX9_roofs 160 = .ok (.iconst 0, 1) := by decide +kernel
theorem dX9_roofs_161 : decode cX9_roofs 161 = .ok (.istore 5, 2) := by decide +kernel
theorem dX9_roofs_163 : decode cX9_roofs 163 = .ok (.iload 5, 2) := by decide +kernel
theorem dX9_roofs_165 : decode cX9_roofs 165 = .ok (.bipush 8, 2) := by decide +kernel
theorem dX9_roofs_167 : decode cX9_roofs 167 = .ok (.if_icmp .ge 23, 3) := by decide +kernel
theorem dX9_roofs_170 : decode cX9_roofs 170 = .ok (.aload_n 0, 1) := by decide +kernel
theorem dX9_roofs_171 : decode cX9_roofs 171 = .ok (.iload_n 1, 1) := by decide +kernel
theorem dX9_roofs_172 : decode cX9_roofs 172 = .ok (.iload_n 2, 1) := by decide +kernel
theorem dX9_roofs_173 : decode cX9_roofs 173 = .ok (.iload_n 3, 1) := by decide +kernel
theorem dX9_roofs_174 : decode cX9_roofs 174 = .ok (.iconst 3, 1) := by decide +kernel
theorem dX9_roofs_175 : decode cX9_roofs 175 = .ok (.iload 5, 2) := by decide +kernel
theorem dX9_roofs_177 : decode cX9_roofs 177 = .ok (.iadd, 1) := by decide +kernel
theorem dX9_roofs_178 : decode cX9_roofs 178 = .ok (.invokevirtual 200, 3) := by decide +kernel
theorem dX9_roofs_181 : decode cX9_roofs 181 = .ok (.ifCond .eq 9, 3) := by decide +kernel
theorem dX9_roofs_184 : decode cX9_roofs 184 = .ok (.iinc 5 1, 3) := by decide +kernel
theorem dX9_roofs_187 : decode cX9_roofs 187 = .ok (.goto (-24), 3) := by decide +kernel
theorem dX9_roofs_190 : decode cX9_roofs 190 = .ok (.iload 5, 2) := by decide +kernel
theorem dX9_roofs_192 : decode cX9_roofs 192 = .ok (.ireturn, 1) := by decide +kernel
theorem dX9_findGrid_0 : decode cX9_findGrid 0 = .ok (.iconst 0, 1) := by decide +kernel
theorem dX9_findGrid_1 : decode cX9_findGrid 1 = .ok (.istore_n 2, 1) := by decide +kernel
theorem dX9_findGrid_2 : decode cX9_findGrid 2 = .ok (.iload_n 2, 1) := by decide +kernel
theorem dX9_findGrid_3 : decode cX9_findGrid 3 = .ok (.sipush 256, 3) := by decide +kernel
theorem dX9_findGrid_6 : decode cX9_findGrid 6 = .ok (.if_icmp .ge 17, 3) := by decide +kernel
theorem dX9_findGrid_9 : decode cX9_findGrid 9 = .ok (.aload_n 0, 1) := by decide +kernel
theorem dX9_findGrid_10 : decode cX9_findGrid 10 = .ok (.getfield 69, 3) := by decide +kernel
theorem dX9_findGrid_13 : decode cX9_findGrid 13 = .ok (.iload_n 2, 1) := by decide +kernel
theorem dX9_findGrid_14 : decode cX9_findGrid 14 = .ok (.ldc 204, 2) := by decide +kernel
theorem dX9_findGrid_16 : decode cX9_findGrid 16 = .ok (.iastore, 1) := by decide +kernel
theorem dX9_findGrid_17 : decode cX9_findGrid 17 = .ok (.iinc 2 1, 3) := by decide +kernel
theorem dX9_findGrid_20 : decode cX9_findGrid 20 = .ok (.goto (-18), 3) := by decide +kernel
theorem dX9_findGrid_23 : decode cX9_findGrid 23 = .ok (.bipush 100, 2) := by decide +kernel
theorem dX9_findGrid_25 : decode cX9_findGrid 25 = .ok (.iload_n 1, 1) := by decide +kernel
theorem dX9_findGrid_26 : decode cX9_findGrid 26 = .ok (.imul, 1) := by decide +kernel
theorem dX9_findGrid_27 : decode cX9_findGrid 27 = .ok (.istore_n 2, 1) := by decide +kernel
theorem dX9_findGrid_28 : decode cX9_findGrid 28 = .ok (.iload_n 2, 1) := by decide +kernel
theorem dX9_findGrid_29 : decode cX9_findGrid 29 = .ok (.aload_n 0, 1) := by decide +kernel
theorem dX9_findGrid_30 : decode cX9_findGrid 30 = .ok (.iload_n 1, 1) := by decide +kernel
theorem dX9_findGrid_31 : decode cX9_findGrid 31 = .ok (.invokevirtual 133, 3) := by decide +kernel
theorem dX9_findGrid_34 : decode cX9_findGrid 34 = .ok (.if_icmp .ge 76, 3) := by decide +kernel
theorem dX9_findGrid_37 : decode cX9_findGrid 37 = .ok (.aload_n 0, 1) := by decide +kernel
theorem dX9_findGrid_38 : decode cX9_findGrid 38 = .ok (.getfield 25, 3) := by decide +kernel
theorem dX9_findGrid_41 : decode cX9_findGrid 41 = .ok (.iload_n 2, 1) := by decide +kernel
theorem dX9_findGrid_42 : decode cX9_findGrid 42 = .ok (.iaload, 1) := by decide +kernel
theorem dX9_findGrid_43 : decode cX9_findGrid 43 = .ok (.iconst 4, 1) := by decide +kernel
theorem dX9_findGrid_44 : decode cX9_findGrid 44 = .ok (.idiv, 1) := by decide +kernel
theorem dX9_findGrid_45 : decode cX9_findGrid 45 = .ok (.bipush 16, 2) := by decide +kernel
theorem dX9_findGrid_47 : decode cX9_findGrid 47 = .ok (.aload_n 0, 1) := by decide +kernel
theorem dX9_findGrid_48 : decode cX9_findGrid 48 = .ok (.getfield 28, 3) := by decide +kernel
theorem dX9_findGrid_51 : decode cX9_findGrid 51 = .ok (.iload_n 2, 1) := by decide +kernel
theorem dX9_findGrid_52 : decode cX9_findGrid 52 = .ok (.iaload, 1) := by decide +kernel
theorem dX9_findGrid_53 : decode cX9_findGrid 53 = .ok (.iconst 4, 1) := by decide +kernel
theorem dX9_findGrid_54 : decode cX9_findGrid 54 = .ok (.idiv, 1) := by decide +kernel
theorem dX9_findGrid_55 : decode cX9_findGrid 55 = .ok (.imul, 1) := by decide +kernel
theorem dX9_findGrid_56 : decode cX9_findGrid 56 = .ok (.iadd, 1) := by decide +kernel
theorem dX9_findGrid_57 : decode cX9_findGrid 57 = .ok (.istore_n 3, 1) := by decide +kernel
theorem dX9_findGrid_58 : decode cX9_findGrid 58 = .ok (.aload_n 0, 1) := by decide +kernel
theorem dX9_findGrid_59 : decode cX9_findGrid 59 = .ok (.iload_n 1, 1) := by decide +kernel
theorem dX9_findGrid_60 : decode cX9_findGrid 60 = .ok (.iload_n 2, 1) := by decide +kernel
theorem dX9_findGrid_61 : decode cX9_findGrid 61 = .ok (.invokevirtual 128, 3) := by decide +kernel
theorem dX9_findGrid_64 : decode cX9_findGrid 64 = .ok (.istore 4, 2) := by decide +kernel
theorem dX9_findGrid_66 : decode cX9_findGrid 66 = .ok (.aload_n 0, 1) := by decide +kernel
theorem dX9_findGrid_67 : decode cX9_findGrid 67 = .ok (.getfield 69, 3) := by decide +kernel
theorem dX9_findGrid_70 : decode cX9_findGrid 70 = .ok (.iload_n 3, 1) := by decide +kernel
theorem dX9_findGrid_71 : decode cX9_findGrid 71 = .ok (.aload_n 0, 1) := by decide +kernel
theorem dX9_findGrid_72 : decode cX9_findGrid 72 = .ok (.getfield 37, 3) := by decide +kernel
theorem dX9_findGrid_75 : decode cX9_findGrid 75 = .ok (.iload_n 2, 1) := by decide +kernel
theorem dX9_findGrid_76 : decode cX9_findGrid 76 = .ok (.iaload, 1) := by decide +kernel
theorem dX9_findGrid_77 : decode cX9_findGrid 77 = .ok (.iconst 1, 1) := by decide +kernel
theorem dX9_findGrid_78 : decode cX9_findGrid 78 = .ok (.if_icmp .ne 19, 3) := by decide +kernel
theorem dX9_findGrid_81 : decode cX9_findGrid 81 = .ok (.iload 4, 2) := by decide +kernel
theorem dX9_findGrid_83 : decode cX9_findGrid 83 = .ok (.aload_n 0, 1) := by decide +kernel
theorem dX9_findGrid_84 : decode cX9_findGrid 84 = .ok (.getfield 69, 3) := by decide +kernel
theorem dX9_findGrid_87 : decode cX9_findGrid 87 = .ok (.iload_n 3, 1) := by decide +kernel
theorem dX9_findGrid_88 : decode cX9_findGrid 88 = .ok (.iaload, 1) := by decide +kernel
theorem dX9_findGrid_89 : decode cX9_findGrid 89 = .ok (.if_icmp .ge 8, 3) := by decide +kernel
theorem dX9_findGrid_92 : decode cX9_findGrid 92 = .ok (.iload 4, 2) := by decide +kernel
theorem dX9_findGrid_94 : decode cX9_findGrid 94 = .ok (.goto 9, 3) := by decide +kernel
theorem dX9_findGrid_97 : decode cX9_findGrid 97 = .ok (.aload_n 0, 1) := by decide +kernel
theorem dX9_findGrid_98 : decode cX9_findGrid 98 = .ok (.getfield 69, 3) := by decide +kernel
theorem dX9_findGrid_101 : decode cX9_findGrid 101 = .ok (.iload_n 3, 1) := by decide +kernel
theorem dX9_findGrid_102 : decode cX9_findGrid 102 = .ok (.iaload, 1) := by decide +kernel
theorem dX9_findGrid_103 : decode cX9_findGrid 103 = .ok (.iastore, 1) := by decide +kernel
theorem dX9_findGrid_104 : decode cX9_findGrid 104 = .ok (.iinc 2 1, 3) := by decide +kernel
theorem dX9_findGrid_107 : decode cX9_findGrid 107 = .ok (.goto (-79), 3) := by decide +kernel
theorem dX9_findGrid_110 : decode cX9_findGrid 110 = .ok (.return_, 1) := by decide +kernel
theorem dX9_count_0 : decode cX9_count 0 = .ok (.iload_n 1, 1) := by decide +kernel
theorem dX9_count_1 : decode cX9_count 1 = .ok (.invokestatic 116, 3) := by decide +kernel
theorem dX9_count_4 : decode cX9_count 4 = .ok (.ifCond .eq 15, 3) := by decide +kernel
theorem dX9_count_7 : decode cX9_count 7 = .ok (.iload_n 2, 1) := by decide +kernel
theorem dX9_count_8 : decode cX9_count 8 = .ok (.i2l, 1) := by decide +kernel
theorem dX9_count_9 : decode cX9_count 9 = .ok (.lconst 0, 1) := by decide +kernel
theorem dX9_count_10 : decode cX9_count 10 = .ok (.ldc2_w 205, 3) := by decide +kernel
theorem dX9_count_13 : decode cX9_count 13 = .ok (.invokestatic 89, 3) := by decide +kernel
theorem dX9_count_16 : decode cX9_count 16 = .ok (.ifCond .ne 5, 3) := by decide +kernel
theorem dX9_count_19 : decode cX9_count 19 = .ok (.iconst (-1), 1) := by decide +kernel
theorem dX9_count_20 : decode cX9_count 20 = .ok (.ireturn, 1) := by decide +kernel
theorem dX9_count_21 : decode cX9_count 21 = .ok (.iconst 0, 1) := by decide +kernel
theorem dX9_count_22 : decode cX9_count 22 = .ok (.istore_n 3, 1) := by decide +kernel
theorem dX9_count_23 : decode cX9_count 23 = .ok (.iload_n 2, 1) := by decide +kernel
theorem dX9_count_24 : decode cX9_count 24 = .ok (.bipush 12, 2) := by decide +kernel
theorem dX9_count_26 : decode cX9_count 26 = .ok (.if_icmp .ne 44, 3) := by decide +kernel
theorem dX9_count_29 : decode cX9_count 29 = .ok (.iconst 0, 1) := by decide +kernel
theorem dX9_count_30 : decode cX9_count 30 = .ok (.istore 4, 2) := by decide +kernel
theorem dX9_count_32 : decode cX9_count 32 = .ok (.iload 4, 2) := by decide +kernel
theorem dX9_count_34 : decode cX9_count 34 = .ok (.bipush 16, 2) := by decide +kernel
theorem dX9_count_36 : decode cX9_count 36 = .ok (.if_icmp .ge 32, 3) := by decide +kernel
theorem dX9_count_39 : decode cX9_count 39 = .ok (.iload_n 3, 1) := by decide +kernel
theorem dX9_count_40 : decode cX9_count 40 = .ok (.aload_n 0, 1) := by decide +kernel
theorem dX9_count_41 : decode cX9_count 41 = .ok (.getfield 46, 3) := by decide +kernel
theorem dX9_count_44 : decode cX9_count 44 = .ok (.bipush 16, 2) := by decide +kernel
theorem dX9_count_46 : decode cX9_count 46 = .ok (.iload_n 1, 1) := by decide +kernel
theorem dX9_count_47 : decode cX9_count 47 = .ok (.imul, 1) := by decide +kernel
theorem dX9_count_48 : decode cX9_count 48 = .ok (.iload 4, 2) := by decide +kernel
theorem dX9_count_50 : decode cX9_count 50 = .ok (.iadd, 1) := by decide +kernel
theorem dX9_count_51 : decode cX9_count 51 = .ok (.baload, 1) := by decide +kernel
theorem dX9_count_52 : decode cX9_count 52 = .ok (.ifCond .eq 7, 3) := by decide +kernel
theorem dX9_count_55 : decode cX9_count 55 = .ok (.iconst 1, 1) := by decide +kernel
theorem dX9_count_56 : decode cX9_count 56 = .ok (.goto 4, 3) := by decide +kernel
theorem dX9_count_59 : decode cX9_count 59 = .ok (.iconst 0, 1) := by decide +kernel
theorem dX9_count_60 : decode cX9_count 60 = .ok (.iadd, 1) := by decide +kernel
theorem dX9_count_61 : decode cX9_count 61 = .ok (.istore_n 3, 1) := by decide +kernel
theorem dX9_count_62 : decode cX9_count 62 = .ok (.iinc 4 1, 3) := by decide +kernel
theorem dX9_count_65 : decode cX9_count 65 = .ok (.goto (-33), 3) := by decide +kernel
theorem dX9_count_68 : decode cX9_count 68 = .ok (.iload_n 3, 1) := by decide +kernel
theorem dX9_count_69 : decode cX9_count 69 = .ok (.ireturn, 1) := by decide +kernel
theorem dX9_count_70 : decode cX9_count 70 = .ok (.iload_n 2, 1) := by decide +kernel
theorem dX9_count_71 : decode cX9_count 71 = .ok (.bipush 13, 2) := by decide +kernel
theorem dX9_count_73 : decode cX9_count 73 = .ok (.if_icmp .ne 47, 3) := by decide +kernel
theorem dX9_count_76 : decode cX9_count 76 = .ok (.aload_n 0, 1) := by decide +kernel
theorem dX9_count_77 : decode cX9_count 77 = .ok (.iload_n 1, 1) := by decide +kernel
theorem dX9_count_78 : decode cX9_count 78 = .ok (.invokevirtual 207, 3) := by decide +kernel
theorem dX9_count_81 : decode cX9_count 81 = .ok (.iconst 0, 1) := by decide +kernel
theorem dX9_count_82 : decode cX9_count 82 = .ok (.istore 4, 2) := by decide +kernel
theorem dX9_count_84 : decode cX9_count 84 = .ok (.iload 4, 2) := by decide +kernel
theorem dX9_count_86 : decode cX9_count 86 = .ok (.sipush 256, 3) := by decide +kernel
theorem dX9_count_89 : decode cX9_count 89 = .ok (.if_icmp .ge 29, 3) := by decide +kernel
theorem dX9_count_92 : decode cX9_count 92 = .ok (.iload_n 3, 1) := by decide +kernel
theorem dX9_count_93 : decode cX9_count 93 = .ok (.aload_n 0, 1) := by decide +kernel
theorem dX9_count_94 : decode cX9_count 94 = .ok (.getfield 69, 3) := by decide +kernel
theorem dX9_count_97 : decode cX9_count 97 = .ok (.iload 4, 2) := by decide +kernel
theorem dX9_count_99 : decode cX9_count 99 = .ok (.iaload, 1) := by decide +kernel
theorem dX9_count_100 : decode cX9_count 100 = .ok (.ldc 204, 2) := by decide +kernel
theorem dX9_count_102 : decode cX9_count 102 = .ok (.if_icmp .ne 7, 3) := by decide +kernel
theorem dX9_count_105 : decode cX9_count 105 = .ok (.iconst 0, 1) := by decide +kernel
theorem dX9_count_106 : decode cX9_count 106 = .ok (.goto 4, 3) := by decide +kernel
theorem dX9_count_109 : decode cX9_count 109 = .ok (.iconst 1, 1) := by decide +kernel
theorem dX9_count_110 : decode cX9_count 110 = .ok (.iadd, 1) := by decide +kernel
theorem dX9_count_111 : decode cX9_count 111 = .ok (.istore_n 3, 1) := by decide +kernel
theorem dX9_count_112 : decode cX9_count 112 = .ok (.iinc 4 1, 3) := by decide +kernel
theorem dX9_count_115 : decode cX9_count 115 = .ok (.goto (-31), 3) := by decide +kernel
theorem dX9_count_118 : decode cX9_count 118 = .ok (.iload_n 3, 1) := by decide +kernel
theorem dX9_count_119 : decode cX9_count 119 = .ok (.ireturn, 1) := by decide +kernel
theorem dX9_count_120 : decode cX9_count 120 = .ok (.iload_n 2, 1) := by decide +kernel
theorem dX9_count_121 : decode cX9_count 121 = .ok (.bipush 11, 2) := by decide +kernel
theorem dX9_count_123 : decode cX9_count 123 = .ok (.if_icmp .ne 12, 3) := by decide +kernel
theorem dX9_count_126 : decode cX9_count 126 = .ok (.aload_n 0, 1) := by decide +kernel
theorem dX9_count_127 : decode cX9_count 127 = .ok (.getfield 22, 3) := by decide +kernel
theorem dX9_count_130 : decode cX9_count 130 = .ok (.iload_n 1, 1) := by decide +kernel
theorem dX9_count_131 : decode cX9_count 131 = .ok (.iaload, 1) := by decide +kernel
theorem dX9_count_132 : decode cX9_count 132 = .ok (.goto 9, 3) := by decide +kernel
theorem dX9_count_135 : decode cX9_count 135 = .ok (.aload_n 0, 1) := by decide +kernel
theorem dX9_count_136 : decode cX9_count 136 = .ok (.iload_n 1, 1) := by decide +kernel
theorem dX9_count_137 : decode cX9_count 137 = .ok (.iload_n 2, 1) := by decide +kernel
theorem dX9_count_138 : decode cX9_count 138 = .ok (.invokevirtual 182, 3) := by decide +kernel
theorem dX9_count_141 : decode cX9_count 141 = .ok (.ireturn, 1) := by decide +kernel
theorem dX9_grid_0 : decode cX9_grid 0 = .ok (.iload_n 1, 1) := by decide +kernel
theorem dX9_grid_1 : decode cX9_grid 1 = .ok (.invokestatic 116, 3) := by decide +kernel
theorem dX9_grid_4 : decode cX9_grid 4 = .ok (.ifCond .eq 27, 3) := by decide +kernel
theorem dX9_grid_7 : decode cX9_grid 7 = .ok (.iload_n 2, 1) := by decide +kernel
theorem dX9_grid_8 : decode cX9_grid 8 = .ok (.i2l, 1) := by decide +kernel
theorem dX9_grid_9 : decode cX9_grid 9 = .ok (.lconst 0, 1) := by decide +kernel
theorem dX9_grid_10 : decode cX9_grid 10 = .ok (.ldc2_w 131, 3) := by decide +kernel
theorem dX9_grid_13 : decode cX9_grid 13 = .ok (.invokestatic 89, 3) := by decide +kernel
theorem dX9_grid_16 : decode cX9_grid 16 = .ok (.ifCond .eq 15, 3) := by decide +kernel
theorem dX9_grid_19 : decode cX9_grid 19 = .ok (.iload_n 3, 1) := by decide +kernel
theorem dX9_grid_20 : decode cX9_grid 20 = .ok (.i2l, 1) := by decide +kernel
theorem dX9_grid_21 : decode cX9_grid 21 = .ok (.lconst 0, 1) := by decide +kernel
theorem dX9_grid_22 : decode cX9_grid 22 = .ok (.ldc2_w 131, 3) := by decide +kernel
theorem dX9_grid_25 : decode cX9_grid 25 = .ok (.invokestatic 89, 3) := by decide +kernel
theorem dX9_grid_28 : decode cX9_grid 28 = .ok (.ifCond .ne 7, 3) := by decide +kernel
theorem dX9_grid_31 : decode cX9_grid 31 = .ok (.sipush (-10001), 3) := by decide +kernel
theorem dX9_grid_34 : decode cX9_grid 34 = .ok (.ireturn, 1) := by decide +kernel
theorem dX9_grid_35 : decode cX9_grid 35 = .ok (.aload_n 0, 1) := by decide +kernel
theorem dX9_grid_36 : decode cX9_grid 36 = .ok (.iload_n 1, 1) := by decide +kernel
theorem dX9_grid_37 : decode cX9_grid 37 = .ok (.invokevirtual 207, 3) := by decide +kernel
theorem dX9_grid_40 : decode cX9_grid 40 = .ok (.aload_n 0, 1) := by decide +kernel
theorem dX9_grid_41 : decode cX9_grid 41 = .ok (.getfield 69, 3) := by decide +kernel
theorem dX9_grid_44 : decode cX9_grid 44 = .ok (.iload_n 2, 1) := by decide +kernel
theorem dX9_grid_45 : decode cX9_grid 45 = .ok (.bipush 16, 2) := by decide +kernel
theorem dX9_grid_47 : decode cX9_grid 47 = .ok (.iload_n 3, 1) := by decide +kernel
theorem dX9_grid_48 : decode cX9_grid 48 = .ok (.imul, 1) := by decide +kernel
theorem dX9_grid_49 : decode cX9_grid 49 = .ok (.iadd, 1) := by decide +kernel
theorem dX9_grid_50 : decode cX9_grid 50 = .ok (.iaload, 1) := by decide +kernel
theorem dX9_grid_51 : decode cX9_grid 51 = .ok (.ireturn, 1) := by decide +kernel
theorem dX9_isFour_0 : decode cX9_isFour 0 = .ok (.iload_n 1, 1) := by decide +kernel
theorem dX9_isFour_1 : decode cX9_isFour 1 = .ok (.i2l, 1) := by decide +kernel
theorem dX9_isFour_2 : decode cX9_isFour 2 = .ok (.lconst 0, 1) := by decide +kernel
theorem dX9_isFour_3 : decode cX9_isFour 3 = .ok (.ldc2_w 210, 3) := by decide +kernel
theorem dX9_isFour_6 : decode cX9_isFour 6 = .ok (.invokestatic 89, 3) := by decide +kernel
theorem dX9_isFour_9 : decode cX9_isFour 9 = .ok (.ifCond .eq 91, 3) := by decide +kernel
theorem dX9_isFour_12 : decode cX9_isFour 12 = .ok (.iload_n 2, 1) := by decide +kernel
theorem dX9_isFour_13 : decode cX9_isFour 13 = .ok (.i2l, 1) := by decide +kernel
theorem dX9_isFour_14 : decode cX9_isFour 14 = .ok (.lconst 0, 1) := by decide +kernel
theorem dX9_isFour_15 : decode cX9_isFour 15 = .ok (.ldc2_w 210, 3) := by decide +kernel
theorem dX9_isFour_18 : decode cX9_isFour 18 = .ok (.invokestatic 89, 3) := by decide +kernel
theorem dX9_isFour_21 : decode cX9_isFour 21 = .ok (.ifCond .eq 79, 3) := by decide +kernel
theorem dX9_isFour_24 : decode cX9_isFour 24 = .ok (.aload_n 0, 1) := by decide +kernel
theorem dX9_isFour_25 : decode cX9_isFour 25 = .ok (.getfield 69, 3) := by decide +kernel
theorem dX9_isFour_28 : decode cX9_isFour 28 = .ok (.iload_n 1, 1) := by decide +kernel
theorem dX9_isFour_29 : decode cX9_isFour 29 = .ok (.bipush 16, 2) := by decide +kernel
theorem dX9_isFour_31 : decode cX9_isFour 31 = .ok (.iload_n 2, 1) := by decide +kernel
theorem dX9_isFour_32 : decode cX9_isFour 32 = .ok (.imul, 1) := by decide +kernel
theorem dX9_isFour_33 : decode cX9_isFour 33 = .ok (.iadd, 1) := by decide +kernel
theorem dX9_isFour_34 : decode cX9_isFour 34 = .ok (.iaload, 1) := by decide +kernel
theorem dX9_isFour_35 : decode cX9_isFour 35 = .ok (.ldc 204, 2) := by decide +kernel
theorem dX9_isFour_37 : decode cX9_isFour 37 = .ok (.if_icmp .eq 63, 3) := by decide +kernel
theorem dX9_isFour_40 : decode cX9_isFour 40 = .ok (.aload_n 0, 1) := by decide +kernel
theorem dX9_isFour_41 : decode cX9_isFour 41 = .ok (.getfield 69, 3) := by decide +kernel
theorem dX9_isFour_44 : decode cX9_isFour 44 = .ok (.iload_n 1, 1) := by decide +kernel
theorem dX9_isFour_45 : decode cX9_isFour 45 = .ok (.iconst 1, 1) := by decide +kernel
theorem dX9_isFour_46 : decode cX9_isFour 46 = .ok (.iadd, 1) := by decide +kernel
theorem dX9_isFour_47 : decode cX9_isFour 47 = .ok (.bipush 16, 2) := by decide +kernel
theorem dX9_isFour_49 : decode cX9_isFour 49 = .ok (.iload_n 2, 1) := by decide +kernel
theorem dX9_isFour_50 : decode cX9_isFour 50 = .ok (.imul, 1) := by decide +kernel
theorem dX9_isFour_51 : decode cX9_isFour 51 = .ok (.iadd, 1) := by decide +kernel
theorem dX9_isFour_52 : decode cX9_isFour 52 = .ok (.iaload, 1) := by decide +kernel
theorem dX9_isFour_53 : decode cX9_isFour 53 = .ok (.ldc 204, 2) := by decide +kernel
theorem dX9_isFour_55 : decode cX9_isFour 55 = .ok (.if_icmp .eq 45, 3) := by decide +kernel
theorem dX9_isFour_58 : decode cX9_isFour 58 = .ok (.aload_n 0, 1) := by decide +kernel
theorem dX9_isFour_59 : decode cX9_isFour 59 = .ok (.getfield 69, 3) := by decide +kernel
theorem dX9_isFour_62 : decode cX9_isFour 62 = .ok (.iload_n 1, 1) := by decide +kernel
theorem dX9_isFour_63 : decode cX9_isFour 63 = .ok (.bipush 16, 2) := by decide +kernel
theorem dX9_isFour_65 : decode cX9_isFour 65 = .ok (.iload_n 2, 1) := by decide +kernel
theorem dX9_isFour_66 : decode cX9_isFour 66 = .ok (.imul, 1) := by decide +kernel
theorem dX9_isFour_67 : decode cX9_isFour 67 = .ok (.iadd, 1) := by decide +kernel
theorem dX9_isFour_68 : decode cX9_isFour 68 = .ok (.bipush 16, 2) := by decide +kernel
theorem dX9_isFour_70 : decode cX9_isFour 70 = .ok (.iadd, 1) := by decide +kernel
theorem dX9_isFour_71 : decode cX9_isFour 71 = .ok (.iaload, 1) := by decide +kernel
theorem dX9_isFour_72 : decode cX9_isFour 72 = .ok (.ldc 204, 2) := by decide +kernel
theorem dX9_isFour_74 : decode cX9_isFour 74 = .ok (.if_icmp .eq 26, 3) := by decide +kernel
theorem dX9_isFour_77 : decode cX9_isFour 77 = .ok (.aload_n 0, 1) := by decide +kernel
theorem dX9_isFour_78 : decode cX9_isFour 78 = .ok (.getfield 69, 3) := by decide +kernel
theorem dX9_isFour_81 : decode cX9_isFour 81 = .ok (.iload_n 1, 1) := by decide +kernel
theorem dX9_isFour_82 : decode cX9_isFour 82 = .ok (.bipush 17, 2) := by decide +kernel
theorem dX9_isFour_84 : decode cX9_isFour 84 = .ok (.iadd, 1) := by decide +kernel
theorem dX9_isFour_85 : decode cX9_isFour 85 = .ok (.bipush 16, 2) := by decide +kernel
theorem dX9_isFour_87 : decode cX9_isFour 87 = .ok (.iload_n 2, 1) := by decide +kernel
theorem dX9_isFour_88 : decode cX9_isFour 88 = .ok (.imul, 1) := by decide +kernel
theorem dX9_isFour_89 : decode cX9_isFour 89 = .ok (.iadd, 1) := by decide +kernel
theorem dX9_isFour_90 : decode cX9_isFour 90 = .ok (.iaload, 1) := by decide +kernel
theorem dX9_isFour_91 : decode cX9_isFour 91 = .ok (.ldc 204, 2) := by decide +kernel
theorem dX9_isFour_93 : decode cX9_isFour 93 = .ok (.if_icmp .eq 7, 3) := by decide +kernel
theorem dX9_isFour_96 : decode cX9_isFour 96 = .ok (.iconst 1, 1) := by decide +kernel
theorem dX9_isFour_97 : decode cX9_isFour 97 = .ok (.goto 4, 3) := by decide +kernel
theorem dX9_isFour_100 : decode cX9_isFour 100 = .ok (.iconst 0, 1) := by decide +kernel
theorem dX9_isFour_101 : decode cX9_isFour 101 = .ok (.ireturn, 1) := by decide +kernel
theorem dX9_volume_0 : decode cX9_volume 0 = .ok (.iload_n 1, 1) := by decide +kernel
theorem dX9_volume_1 : decode cX9_volume 1 = .ok (.invokestatic 116, 3) := by decide +kernel
theorem dX9_volume_4 : decode cX9_volume 4 = .ok (.ifCond .eq 17, 3) := by decide +kernel
theorem dX9_volume_7 : decode cX9_volume 7 = .ok (.iload_n 2, 1) := by decide +kernel
theorem dX9_volume_8 : decode cX9_volume 8 = .ok (.i2l, 1) := by decide +kernel
theorem dX9_volume_9 : decode cX9_volume 9 = .ok (.ldc2_w 212, 3) := by decide +kernel
theorem dX9_volume_12 : decode cX9_volume 12 = .ok (.ldc2_w 214, 3) := by decide +kernel
theorem dX9_volume_15 : decode cX9_volume 15 = .ok (.invokestatic 89, 3) := by decide +kernel
theorem dX9_volume_18 : decode cX9_volume 18 = .ok (.ifCond .ne 5, 3) := by decide +kernel
theorem dX9_volume_21 : decode cX9_volume 21 = .ok (.lconst 0, 1) := by decide +kernel
theorem dX9_volume_22 : decode cX9_volume 22 = .ok (.lreturn, 1) := by decide +kernel
theorem dX9_volume_23 : decode cX9_volume 23 = .ok (.aload_n 0, 1) := by decide +kernel
theorem dX9_volume_24 : decode cX9_volume 24 = .ok (.iload_n 1, 1) := by decide +kernel
theorem dX9_volume_25 : decode cX9_volume 25 = .ok (.invokevirtual 207, 3) := by decide +kernel
theorem dX9_volume_28 : decode cX9_volume 28 = .ok (.lconst 0, 1) := by decide +kernel
theorem dX9_volume_29 : decode cX9_volume 29 = .ok (.lstore_n 3, 1) := by decide +kernel
theorem dX9_volume_30 : decode cX9_volume 30 = .ok (.iconst 0, 1) := by decide +kernel
theorem dX9_volume_31 : decode cX9_volume 31 = .ok (.istore 5, 2) := by decide +kernel
theorem dX9_volume_33 : decode cX9_volume 33 = .ok (.iload 5, 2) := by decide +kernel
theorem dX9_volume_35 : decode cX9_volume 35 = .ok (.bipush 15, 2) := by decide +kernel
theorem dX9_volume_37 : decode cX9_volume 37 = .ok (.if_icmp .ge 127, 3) := by decide +kernel
theorem dX9_volume_40 : decode cX9_volume 40 = .ok (.iconst 0, 1) := by decide +kernel
theorem dX9_volume_41 : decode cX9_volume 41 = .ok (.istore 6, 2) := by decide +kernel
theorem dX9_volume_43 : decode cX9_volume 43 = .ok (.iload 6, 2) := by decide +kernel
theorem dX9_volume_45 : decode cX9_volume 45 = .ok (.bipush 15, 2) := by decide +kernel
theorem dX9_volume_47 : decode cX9_volume 47 = .ok (.if_icmp .ge 111, 3) := by decide +kernel
theorem dX9_volume_50 : decode cX9_volume 50 = .ok (.aload_n 0, 1) := by decide +kernel
theorem dX9_volume_51 : decode cX9_volume 51 = .ok (.iload 6, 2) := by decide +kernel
theorem dX9_volume_53 : decode cX9_volume 53 = .ok (.iload 5, 2) := by decide +kernel
theorem dX9_volume_55 : decode cX9_volume 55 = .ok (.invokevirtual 216, 3) := by decide +kernel
theorem dX9_volume_58 : decode cX9_volume 58 = .ok (.ifCond .eq 94, 3) := by decide +kernel
theorem dX9_volume_61 : decode cX9_volume 61 = .ok (.aload_n 0, 1) := by decide +kernel
theorem dX9_volume_62 : decode cX9_volume 62 = .ok (.getfield 69, 3) := by decide +kernel
theorem dX9_volume_65 : decode cX9_volume 65 = .ok (.iload 6, 2) := by decide +kernel
theorem dX9_volume_67 : decode cX9_volume 67 = .ok (.bipush 16, 2) := by decide +kernel
theorem dX9_volume_69 : decode cX9_volume 69 = .ok (.iload 5, 2) := by decide +kernel
theorem dX9_volume_71 : decode cX9_volume 71 = .ok (.imul, 1) := by decide +kernel
theorem dX9_volume_72 : decode cX9_volume 72 = .ok (.iadd, 1) := by decide +kernel
theorem dX9_volume_73 : decode cX9_volume 73 = .ok (.iaload, 1) := by decide +kernel
theorem dX9_volume_74 : decode cX9_volume 74 = .ok (.aload_n 0, 1) := by decide +kernel
theorem dX9_volume_75 : decode cX9_volume 75 = .ok (.getfield 69, 3) := by decide +kernel
theorem dX9_volume_78 : decode cX9_volume 78 = .ok (.iload 6, 2) := by decide +kernel
theorem dX9_volume_80 : decode cX9_volume 80 = .ok (.bipush 17, 2) := by decide +kernel
theorem dX9_volume_82 : decode cX9_volume 82 = .ok (.iadd, 1) := by decide +kernel
theorem dX9_volume_83 : decode cX9_volume 83 = .ok (.bipush 16, 2) := by decide +kernel
theorem dX9_volume_85 : decode cX9_volume 85 = .ok (.iload 5, 2) := by decide +kernel
theorem dX9_volume_87 : decode cX9_volume 87 = .ok (.imul, 1) := by decide +kernel
theorem dX9_volume_88 : decode cX9_volume 88 = .ok (.iadd, 1) := by decide +kernel
theorem dX9_volume_89 : decode cX9_volume 89 = .ok (.iaload, 1) := by decide +kernel
theorem dX9_volume_90 : decode cX9_volume 90 = .ok (.iadd, 1) := by decide +kernel
theorem dX9_volume_91 : decode cX9_volume 91 = .ok (.i2l, 1) := by decide +kernel
theorem dX9_volume_92 : decode cX9_volume 92 = .ok (.ldc2_w 93, 3) := by decide +kernel
theorem dX9_volume_95 : decode cX9_volume 95 = .ok (.iload_n 2, 1) := by decide +kernel
theorem dX9_volume_96 : decode cX9_volume 96 = .ok (.i2l, 1) := by decide +kernel
theorem dX9_volume_97 : decode cX9_volume 97 = .ok (.lmul, 1) := by decide +kernel
theorem dX9_volume_98 : decode cX9_volume 98 = .ok (.lsub, 1) := by decide +kernel
theorem dX9_volume_99 : decode cX9_volume 99 = .ok (.lstore 7, 2) := by decide +kernel
theorem dX9_volume_101 : decode cX9_volume 101 = .ok (.lload_n 3, 1) := by decide +kernel
theorem dX9_volume_102 : decode cX9_volume 102 = .ok (.ldc2_w 93, 3) := by decide +kernel
theorem dX9_volume_105 : decode cX9_volume 105 = .ok (.lload 7, 2) := by decide +kernel
theorem dX9_volume_107 : decode cX9_volume 107 = .ok (.lmul, 1) := by decide +kernel
theorem dX9_volume_108 : decode cX9_volume 108 = .ok (.aload_n 0, 1) := by decide +kernel
theorem dX9_volume_109 : decode cX9_volume 109 = .ok (.getfield 69, 3) := by decide +kernel
theorem dX9_volume_112 : decode cX9_volume 112 = .ok (.iload 6, 2) := by decide +kernel
theorem dX9_volume_114 : decode cX9_volume 114 = .ok (.iconst 1, 1) := by decide +kernel
theorem dX9_volume_115 : decode cX9_volume 115 = .ok (.iadd, 1) := by decide +kernel
theorem dX9_volume_116 : decode cX9_volume 116 = .ok (.bipush 16, 2) := by decide +kernel
theorem dX9_volume_118 : decode cX9_volume 118 = .ok (.iload 5, 2) := by decide +kernel
theorem dX9_volume_120 : decode cX9_volume 120 = .ok (.imul, 1) := by decide +kernel
theorem dX9_volume_121 : decode cX9_volume 121 = .ok (.iadd, 1) := by decide +kernel
theorem dX9_volume_122 : decode cX9_volume 122 = .ok (.iaload, 1) := by decide +kernel
theorem dX9_volume_123 : decode cX9_volume 123 = .ok (.i2l, 1) := by decide +kernel
theorem dX9_volume_124 : decode cX9_volume 124 = .ok (.ladd, 1) := by decide +kernel
theorem dX9_volume_125 : decode cX9_volume 125 = .ok (.aload_n 0, 1) := by decide +kernel
theorem dX9_volume_126 : decode cX9_volume 126 = .ok (.getfield 69, 3) := by decide +kernel
theorem dX9_volume_129 : decode cX9_volume 129 = .ok (.iload 6, 2) := by decide +kernel
theorem dX9_volume_131 : decode cX9_volume 131 = .ok (.bipush 16, 2) := by decide +kernel
theorem dX9_volume_133 : decode cX9_volume 133 = .ok (.iload 5, 2) := by decide +kernel
theorem dX9_volume_135 : decode cX9_volume 135 = .ok (.imul, 1) := by decide +kernel
theorem dX9_volume_136 : decode cX9_volume 136 = .ok (.iadd, 1) := by decide +kernel
theorem dX9_volume_137 : decode cX9_volume 137 = .ok (.bipush 16, 2) := by decide +kernel
theorem dX9_volume_139 : decode cX9_volume 139 = .ok (.iadd, 1) := by decide +kernel
theorem dX9_volume_140 : decode cX9_volume 140 = .ok (.iaload, 1) := by decide +kernel
theorem dX9_volume_141 : decode cX9_volume 141 = .ok (.i2l, 1) := by decide +kernel
theorem dX9_volume_142 : decode cX9_volume 142 = .ok (.ladd, 1) := by decide +kernel
theorem dX9_volume_143 : decode cX9_volume 143 = .ok (.ldc2_w 93, 3) := by decide +kernel
theorem dX9_volume_146 : decode cX9_volume 146 = .ok (.iload_n 2, 1) := by decide +kernel
theorem dX9_volume_147 : decode cX9_volume 147 = .ok (.i2l, 1) := by decide +kernel
theorem dX9_volume_148 : decode cX9_volume 148 = .ok (.lmul, 1) := by decide +kernel
theorem dX9_volume_149 : decode cX9_volume 149 = .ok (.lsub, 1) := by decide +kernel
theorem dX9_volume_150 : decode cX9_volume 150 = .ok (.ladd, 1) := by decide +kernel
theorem dX9_volume_151 : decode cX9_volume 151 = .ok (.lstore_n 3, 1) := by decide +kernel
theorem dX9_volume_152 : decode cX9_volume 152 = .ok (.iinc 6 1, 3) := by decide +kernel
theorem dX9_volume_155 : decode cX9_volume 155 = .ok (.goto (-112), 3) := by decide +kernel
theorem dX9_volume_158 : decode cX9_volume 158 = .ok (.iinc 5 1, 3) := by decide +kernel
theorem dX9_volume_161 : decode cX9_volume 161 = .ok (.goto (-128), 3) := by decide +kernel
theorem dX9_volume_164 : decode cX9_volume 164 = .ok (.ldc2_w 219, 3) := by decide +kernel
theorem dX9_volume_167 : decode cX9_volume 167 = .ok (.lload_n 3, 1) := by decide +kernel
theorem dX9_volume_168 : decode cX9_volume 168 = .ok (.lmul, 1) := by decide +kernel
theorem dX9_volume_169 : decode cX9_volume 169 = .ok (.lreturn, 1) := by decide +kernel
theorem dX9_thirds_0 : decode cX9_thirds 0 = .ok (.iload_n 1, 1) := by decide +kernel
theorem dX9_thirds_1 : decode cX9_thirds 1 = .ok (.invokestatic 116, 3) := by decide +kernel
theorem dX9_thirds_4 : decode cX9_thirds 4 = .ok (.ifCond .ne 5, 3) := by decide +kernel
theorem dX9_thirds_7 : decode cX9_thirds 7 = .ok (.iconst (-1), 1) := by decide +kernel
theorem dX9_thirds_8 : decode cX9_thirds 8 = .ok (.ireturn, 1) := by decide +kernel
theorem dX9_thirds_9 : decode cX9_thirds 9 = .ok (.aload_n 0, 1) := by decide +kernel
theorem dX9_thirds_10 : decode cX9_thirds 10 = .ok (.iload_n 1, 1) := by decide +kernel
theorem dX9_thirds_11 : decode cX9_thirds 11 = .ok (.invokevirtual 207, 3) := by decide +kernel
theorem dX9_thirds_14 : decode cX9_thirds 14 = .ok (.iconst 0, 1) := by decide +kernel
theorem dX9_thirds_15 : decode cX9_thirds 15 = .ok (.istore_n 2, 1) := by decide +kernel
theorem dX9_thirds_16 : decode cX9_thirds 16 = .ok (.iconst 0, 1) := by decide +kernel
theorem dX9_thirds_17 : decode cX9_thirds 17 = .ok (.istore_n 3, 1) := by decide +kernel
theorem dX9_thirds_18 : decode cX9_thirds 18 = .ok (.iload_n 3, 1) := by decide +kernel
theorem dX9_thirds_19 : decode cX9_thirds 19 = .ok (.sipush 225, 3) := by decide +kernel
theorem dX9_thirds_22 : decode cX9_thirds 22 = .ok (.if_icmp .ge 32, 3) := by decide +kernel
theorem dX9_thirds_25 : decode cX9_thirds 25 = .ok (.iload_n 2, 1) := by decide +kernel
theorem dX9_thirds_26 : decode cX9_thirds 26 = .ok (.aload_n 0, 1) := by decide +kernel
theorem dX9_thirds_27 : decode cX9_thirds 27 = .ok (.iload_n 3, 1) := by decide +kernel
theorem dX9_thirds_28 : decode cX9_thirds 28 = .ok (.bipush 15, 2) := by decide +kernel
theorem dX9_thirds_30 : decode cX9_thirds 30 = .ok (.irem, 1) := by decide +kernel
theorem dX9_thirds_31 : decode cX9_thirds 31 = .ok (.iload_n 3, 1) := by decide +kernel
theorem dX9_thirds_32 : decode cX9_thirds 32 = .ok (.bipush 15, 2) := by decide +kernel
theorem dX9_thirds_34 : decode cX9_thirds 34 = .ok (.idiv, 1) := by decide +kernel
theorem dX9_thirds_35 : decode cX9_thirds 35 = .ok (.invokevirtual 216, 3) := by decide +kernel
theorem dX9_thirds_38 : decode cX9_thirds 38 = .ok (.ifCond .eq 7, 3) := by decide +kernel
theorem dX9_thirds_41 : decode cX9_thirds 41 = .ok (.iconst 2, 1) := by decide +kernel
theorem dX9_thirds_42 : decode cX9_thirds 42 = .ok (.goto 4, 3) := by decide +kernel
theorem dX9_thirds_45 : decode cX9_thirds 45 = .ok (.iconst 0, 1) := by decide +kernel
theorem dX9_thirds_46 : decode cX9_thirds 46 = .ok (.iadd, 1) := by decide +kernel
theorem dX9_thirds_47 : decode cX9_thirds 47 = .ok (.istore_n 2, 1) := by decide +kernel
theorem dX9_thirds_48 : decode cX9_thirds 48 = .ok (.iinc 3 1, 3) := by decide +kernel
theorem dX9_thirds_51 : decode cX9_thirds 51 = .ok (.goto (-33), 3) := by decide +kernel
theorem dX9_thirds_54 : decode cX9_thirds 54 = .ok (.iload_n 2, 1) := by decide +kernel
theorem dX9_thirds_55 : decode cX9_thirds 55 = .ok (.ireturn, 1) := by decide +kernel
theorem dX9_isUp_0 : decode cX9_isUp 0 = .ok (.aload_n 0, 1) := by decide +kernel
theorem dX9_isUp_1 : decode cX9_isUp 1 = .ok (.getfield 69, 3) := by decide +kernel
theorem dX9_isUp_4 : decode cX9_isUp 4 = .ok (.iload_n 1, 1) := by decide +kernel
theorem dX9_isUp_5 : decode cX9_isUp 5 = .ok (.bipush 16, 2) := by decide +kernel
theorem dX9_isUp_7 : decode cX9_isUp 7 = .ok (.iload_n 2, 1) := by decide +kernel
theorem dX9_isUp_8 : decode cX9_isUp 8 = .ok (.imul, 1) := by decide +kernel
theorem dX9_isUp_9 : decode cX9_isUp 9 = .ok (.iadd, 1) := by decide +kernel
theorem dX9_isUp_10 : decode cX9_isUp 10 = .ok (.iaload, 1) := by decide +kernel
theorem dX9_isUp_11 : decode cX9_isUp 11 = .ok (.iload_n 3, 1) := by decide +kernel
theorem dX9_isUp_12 : decode cX9_isUp 12 = .ok (.if_icmp .lt 7, 3) := by decide +kernel
theorem dX9_isUp_15 : decode cX9_isUp 15 = .ok (.iconst 1, 1) := by decide +kernel
theorem dX9_isUp_16 : decode cX9_isUp 16 = .ok (.goto 4, 3) := by decide +kernel
theorem dX9_isUp_19 : decode cX9_isUp 19 = .ok (.iconst 0, 1) := by decide +kernel
theorem dX9_isUp_20 : decode cX9_isUp 20 = .ok (.ireturn, 1) := by decide +kernel
theorem dX9_isThird_0 : decode cX9_isThird 0 = .ok (.iload_n 1, 1) := by decide +kernel
theorem dX9_isThird_1 : decode cX9_isThird 1 = .ok (.ifCond .lt 24, 3) := by decide +kernel
theorem dX9_isThird_4 : decode cX9_isThird 4 = .ok (.aload_n 0, 1) := by decide +kernel
theorem dX9_isThird_5 : decode cX9_isThird 5 = .ok (.iload_n 1, 1) := by decide +kernel
theorem dX9_isThird_6 : decode cX9_isThird 6 = .ok (.iconst 2, 1) := by decide +kernel
theorem dX9_isThird_7 : decode cX9_isThird 7 = .ok (.idiv, 1) := by decide +kernel
theorem dX9_isThird_8 : decode cX9_isThird 8 = .ok (.bipush 15, 2) := by decide +kernel
theorem dX9_isThird_10 : decode cX9_isThird 10 = .ok (.irem, 1) := by decide +kernel
theorem dX9_isThird_11 : decode cX9_isThird 11 = .ok (.iload_n 1, 1) := by decide +kernel
theorem dX9_isThird_12 : decode cX9_isThird 12 = .ok (.bipush 30, 2) := by decide +kernel
theorem dX9_isThird_14 : decode cX9_isThird 14 = .ok (.idiv, 1) := by decide +kernel
theorem dX9_isThird_15 : decode cX9_isThird 15 = .ok (.invokevirtual 216, 3) := by decide +kernel
theorem dX9_isThird_18 : decode cX9_isThird 18 = .ok (.ifCond .eq 7, 3) := by decide +kernel
theorem dX9_isThird_21 : decode cX9_isThird 21 = .ok (.iconst 1, 1) := by decide +kernel
theorem dX9_isThird_22 : decode cX9_isThird 22 = .ok (.goto 4, 3) := by decide +kernel
theorem dX9_isThird_25 : decode cX9_isThird 25 = .ok (.iconst 0, 1) := by decide +kernel
theorem dX9_isThird_26 : decode cX9_isThird 26 = .ok (.ireturn, 1) := by decide +kernel
theorem dX9_isCrossed_0 : decode cX9_isCrossed 0 = .ok (.iload_n 1, 1) := by decide +kernel
theorem dX9_isCrossed_1 : decode cX9_isCrossed 1 = .ok (.iconst 2, 1) := by decide +kernel
theorem dX9_isCrossed_2 : decode cX9_isCrossed 2 = .ok (.idiv, 1) := by decide +kernel
theorem dX9_isCrossed_3 : decode cX9_isCrossed 3 = .ok (.bipush 15, 2) := by decide +kernel
theorem dX9_isCrossed_5 : decode cX9_isCrossed 5 = .ok (.irem, 1) := by decide +kernel
theorem dX9_isCrossed_6 : decode cX9_isCrossed 6 = .ok (.istore_n 3, 1) := by decide +kernel
theorem dX9_isCrossed_7 : decode cX9_isCrossed 7 = .ok (.iload_n 1, 1) := by decide +kernel
theorem dX9_isCrossed_8 : decode cX9_isCrossed 8 = .ok (.bipush 30, 2) := by decide +kernel
theorem dX9_isCrossed_10 : decode cX9_isCrossed 10 = .ok (.idiv, 1) := by decide +kernel
theorem dX9_isCrossed_11 : decode cX9_isCrossed 11 = .ok (.istore 4, 2) := by decide +kernel
theorem dX9_isCrossed_13 : decode cX9_isCrossed 13 = .ok (.aload_n 0, 1) := by decide +kernel
theorem dX9_isCrossed_14 : decode cX9_isCrossed 14 = .ok (.iload_n 3, 1) := by decide +kernel
theorem dX9_isCrossed_15 : decode cX9_isCrossed 15 = .ok (.iload 4, 2) := by decide +kernel
theorem dX9_isCrossed_17 : decode cX9_isCrossed 17 = .ok (.iload_n 2, 1) := by decide +kernel
theorem dX9_isCrossed_18 : decode cX9_isCrossed 18 = .ok (.invokevirtual 221, 3) := by decide +kernel
theorem dX9_isCrossed_21 : decode cX9_isCrossed 21 = .ok (.ifCond .eq 7, 3) := by decide +kernel
theorem dX9_isCrossed_24 : decode cX9_isCrossed 24 = .ok (.iconst 1, 1) := by decide +kernel
theorem dX9_isCrossed_25 : decode cX9_isCrossed 25 = .ok (.goto 4, 3) := by decide +kernel
theorem dX9_isCrossed_28 : decode cX9_isCrossed 28 = .ok (.iconst 0, 1) := by decide +kernel
theorem dX9_isCrossed_29 : decode cX9_isCrossed 29 = .ok (.aload_n 0, 1) := by decide +kernel
theorem dX9_isCrossed_30 : decode cX9_isCrossed 30 = .ok (.iload_n 3, 1) := by decide +kernel
theorem dX9_isCrossed_31 : decode cX9_isCrossed 31 = .ok (.iconst 1, 1) := by decide +kernel
theorem dX9_isCrossed_32 : decode cX9_isCrossed 32 = .ok (.iadd, 1) := by decide +kernel
theorem dX9_isCrossed_33 : decode cX9_isCrossed 33 = .ok (.iload 4, 2) := by decide +kernel
theorem dX9_isCrossed_35 : decode cX9_isCrossed 35 = .ok (.iconst 1, 1) := by decide +kernel
theorem dX9_isCrossed_36 : decode cX9_isCrossed 36 = .ok (.iadd, 1) := by decide +kernel
theorem dX9_isCrossed_37 : decode cX9_isCrossed 37 = .ok (.iload_n 2, 1) := by decide +kernel
theorem dX9_isCrossed_38 : decode cX9_isCrossed 38 = .ok (.invokevirtual 221, 3) := by decide +kernel
theorem dX9_isCrossed_41 : decode cX9_isCrossed 41 = .ok (.ifCond .eq 7, 3) := by decide +kernel
theorem dX9_isCrossed_44 : decode cX9_isCrossed 44 = .ok (.iconst 1, 1) := by decide +kernel
theorem dX9_isCrossed_45 : decode cX9_isCrossed 45 = .ok (.goto 4, 3) := by decide +kernel
theorem dX9_isCrossed_48 : decode cX9_isCrossed 48 = .ok (.iconst 0, 1) := by decide +kernel
theorem dX9_isCrossed_49 : decode cX9_isCrossed 49 = .ok (.iadd, 1) := by decide +kernel
theorem dX9_isCrossed_50 : decode cX9_isCrossed 50 = .ok (.aload_n 0, 1) := by decide +kernel
theorem dX9_isCrossed_51 : decode cX9_isCrossed 51 = .ok (.iload_n 3, 1) := by decide +kernel
theorem dX9_isCrossed_52 : decode cX9_isCrossed 52 = .ok (.iconst 1, 1) := by decide +kernel
theorem dX9_isCrossed_53 : decode cX9_isCrossed 53 = .ok (.iadd, 1) := by decide +kernel
theorem dX9_isCrossed_54 : decode cX9_isCrossed 54 = .ok (.iload_n 1, 1) := by decide +kernel
theorem dX9_isCrossed_55 : decode cX9_isCrossed 55 = .ok (.iconst 2, 1) := by decide +kernel
theorem dX9_isCrossed_56 : decode cX9_isCrossed 56 = .ok (.irem, 1) := by decide +kernel
theorem dX9_isCrossed_57 : decode cX9_isCrossed 57 = .ok (.isub, 1) := by decide +kernel
theorem dX9_isCrossed_58 : decode cX9_isCrossed 58 = .ok (.iload 4, 2) := by decide +kernel
theorem dX9_isCrossed_60 : decode cX9_isCrossed 60 = .ok (.iload_n 1, 1) := by decide +kernel
theorem dX9_isCrossed_61 : decode cX9_isCrossed 61 = .ok (.iconst 2, 1) := by decide +kernel
theorem dX9_isCrossed_62 : decode cX9_isCrossed 62 = .ok (.irem, 1) := by decide +kernel
theorem dX9_isCrossed_63 : decode cX9_isCrossed 63 = .ok (.iadd, 1) := by decide +kernel
theorem dX9_isCrossed_64 : decode cX9_isCrossed 64 = .ok (.iload_n 2, 1) := by decide +kernel
theorem dX9_isCrossed_65 : decode cX9_isCrossed 65 = .ok (.invokevirtual 221, 3) := by decide +kernel
theorem dX9_isCrossed_68 : decode cX9_isCrossed 68 = .ok (.ifCond .eq 7, 3) := by decide +kernel
theorem dX9_isCrossed_71 : decode cX9_isCrossed 71 = .ok (.iconst 1, 1) := by decide +kernel
theorem dX9_isCrossed_72 : decode cX9_isCrossed 72 = .ok (.goto 4, 3) := by decide +kernel
theorem dX9_isCrossed_75 : decode cX9_isCrossed 75 = .ok (.iconst 0, 1) := by decide +kernel
theorem dX9_isCrossed_76 : decode cX9_isCrossed 76 = .ok (.iadd, 1) := by decide +kernel
theorem dX9_isCrossed_77 : decode cX9_isCrossed 77 = .ok (.istore 5, 2) := by decide +kernel
theorem dX9_isCrossed_79 : decode cX9_isCrossed 79 = .ok (.iload 5, 2) := by decide +kernel
theorem dX9_isCrossed_81 : decode cX9_isCrossed 81 = .ok (.i2l, 1) := by decide +kernel
theorem dX9_isCrossed_82 : decode cX9_isCrossed 82 = .ok (.lconst 1, 1) := by decide +kernel
theorem dX9_isCrossed_83 : decode cX9_isCrossed 83 = .ok (.ldc2_w 93, 3) := by decide +kernel
theorem dX9_isCrossed_86 : decode cX9_isCrossed 86 = .ok (.invokestatic 89, 3) := by decide +kernel
theorem dX9_isCrossed_89 : decode cX9_isCrossed 89 = .ok (.ireturn, 1) := by decide +kernel
theorem dX9_besideOf_0 : decode cX9_besideOf 0 = .ok (.iload_n 1, 1) := by decide +kernel
theorem dX9_besideOf_1 : decode cX9_besideOf 1 = .ok (.iconst 2, 1) := by decide +kernel
theorem dX9_besideOf_2 : decode cX9_besideOf 2 = .ok (.idiv, 1) := by decide +kernel
theorem dX9_besideOf_3 : decode cX9_besideOf 3 = .ok (.bipush 15, 2) := by decide +kernel
theorem dX9_besideOf_5 : decode cX9_besideOf 5 = .ok (.irem, 1) := by decide +kernel
theorem dX9_besideOf_6 : decode cX9_besideOf 6 = .ok (.istore_n 3, 1) := by decide +kernel
theorem dX9_besideOf_7 : decode cX9_besideOf 7 = .ok (.iload_n 1, 1) := by decide +kernel
theorem dX9_besideOf_8 : decode cX9_besideOf 8 = .ok (.bipush 30, 2) := by decide +kernel
theorem dX9_besideOf_10 : decode cX9_besideOf 10 = .ok (.idiv, 1) := by decide +kernel
theorem dX9_besideOf_11 : decode cX9_besideOf 11 = .ok (.istore 4, 2) := by decide +kernel
theorem dX9_besideOf_13 : decode cX9_besideOf 13 = .ok (.iload_n 2, 1) := by decide +kernel
theorem dX9_besideOf_14 : decode cX9_besideOf 14 = .ok (.ifCond .ne 19, 3) := by decide +kernel
theorem dX9_besideOf_17 : decode cX9_besideOf 17 = .ok (.iload_n 1, 1) := by decide +kernel
theorem dX9_besideOf_18 : decode cX9_besideOf 18 = .ok (.iconst 2, 1) := by decide +kernel
theorem dX9_besideOf_19 : decode cX9_besideOf 19 = .ok (.irem, 1) := by decide +kernel
theorem dX9_besideOf_20 : decode cX9_besideOf 20 = .ok (.ifCond .ne 9, 3) := by decide +kernel
theorem dX9_besideOf_23 : decode cX9_besideOf 23 = .ok (.iload_n 1, 1) := by decide +kernel
theorem dX9_besideOf_24 : decode cX9_besideOf 24 = .ok (.iconst 1, 1) := by decide +kernel
theorem dX9_besideOf_25 : decode cX9_besideOf 25 = .ok (.iadd, 1) := by decide +kernel
theorem dX9_besideOf_26 : decode cX9_besideOf 26 = .ok (.goto 6, 3) := by decide +kernel
theorem dX9_besideOf_29 : decode cX9_besideOf 29 = .ok (.iload_n 1, 1) := by decide +kernel
theorem dX9_besideOf_30 : decode cX9_besideOf 30 = .ok (.iconst 1, 1) := by decide +kernel
theorem dX9_besideOf_31 : decode cX9_besideOf 31 = .ok (.isub, 1) := by decide +kernel
theorem dX9_besideOf_32 : decode cX9_besideOf 32 = .ok (.ireturn, 1) := by decide +kernel
theorem dX9_besideOf_33 : decode cX9_besideOf 33 = .ok (.iload_n 1, 1) := by decide +kernel
theorem dX9_besideOf_34 : decode cX9_besideOf 34 = .ok (.iconst 2, 1) := by decide +kernel
theorem dX9_besideOf_35 : decode cX9_besideOf 35 = .ok (.irem, 1) := by decide +kernel
theorem dX9_besideOf_36 : decode cX9_besideOf 36 = .ok (.ifCond .ne 7, 3) := by decide +kernel
theorem dX9_besideOf_39 : decode cX9_besideOf 39 = .ok (.iconst 1, 1) := by decide +kernel
theorem dX9_besideOf_40 : decode cX9_besideOf 40 = .ok (.goto 4, 3) := by decide +kernel
theorem dX9_besideOf_43 : decode cX9_besideOf 43 = .ok (.iconst 0, 1) := by decide +kernel
theorem dX9_besideOf_44 : decode cX9_besideOf 44 = .ok (.istore 5, 2) := by decide +kernel
theorem dX9_besideOf_46 : decode cX9_besideOf 46 = .ok (.iload_n 2, 1) := by decide +kernel
theorem dX9_besideOf_47 : decode cX9_besideOf 47 = .ok (.iconst 1, 1) := by decide +kernel
theorem dX9_besideOf_48 : decode cX9_besideOf 48 = .ok (.if_icmp .ne 7, 3) := by decide +kernel
theorem dX9_besideOf_51 : decode cX9_besideOf 51 = .ok (.iload_n 3, 1) := by decide +kernel
theorem dX9_besideOf_52 : decode cX9_besideOf 52 = .ok (.goto 17, 3) := by decide +kernel
theorem dX9_besideOf_55 : decode cX9_besideOf 55 = .ok (.iload 5, 2) := by decide +kernel
theorem dX9_besideOf_57 : decode cX9_besideOf 57 = .ok (.ifCond .eq 9, 3) := by decide +kernel
theorem dX9_besideOf_60 : decode cX9_besideOf 60 = .ok (.iload_n 3, 1) := by decide +kernel
theorem dX9_besideOf_61 : decode cX9_besideOf 61 = .ok (.iconst 1, 1) := by decide +kernel
theorem dX9_besideOf_62 : decode cX9_besideOf 62 = .ok (.iadd, 1) := by decide +kernel
theorem dX9_besideOf_63 : decode cX9_besideOf 63 = .ok (.goto 6, 3) := by decide +kernel
theorem dX9_besideOf_66 : decode cX9_besideOf 66 = .ok (.iload_n 3, 1) := by decide +kernel
theorem dX9_besideOf_67 : decode cX9_besideOf 67 = .ok (.iconst 1, 1) := by decide +kernel
theorem dX9_besideOf_68 : decode cX9_besideOf 68 = .ok (.isub, 1) := by decide +kernel
theorem dX9_besideOf_69 : decode cX9_besideOf 69 = .ok (.istore 6, 2) := by decide +kernel
theorem dX9_besideOf_71 : decode cX9_besideOf 71 = .ok (.iload_n 2, 1) := by decide +kernel
theorem dX9_besideOf_72 : decode cX9_besideOf 72 = .ok (.iconst 1, 1) := by decide +kernel
theorem dX9_besideOf_73 : decode cX9_besideOf 73 = .ok (.if_icmp .ne 22, 3) := by decide +kernel
theorem dX9_besideOf_76 : decode cX9_besideOf 76 = .ok (.iload 5, 2) := by decide +kernel
theorem dX9_besideOf_78 : decode cX9_besideOf 78 = .ok (.ifCond .eq 10, 3) := by decide +kernel
theorem dX9_besideOf_81 : decode cX9_besideOf 81 = .ok (.iload 4, 2) := by decide +kernel
theorem dX9_besideOf_83 : decode cX9_besideOf 83 = .ok (.iconst 1, 1) := by decide +kernel
theorem dX9_besideOf_84 : decode cX9_besideOf 84 = .ok (.isub, 1) := by decide +kernel
theorem dX9_besideOf_85 : decode cX9_besideOf 85 = .ok (.goto 12, 3) := by decide +kernel
theorem dX9_besideOf_88 : decode cX9_besideOf 88 = .ok (.iload 4, 2) := by decide +kernel
theorem dX9_besideOf_90 : decode cX9_besideOf 90 = .ok (.iconst 1, 1) := by decide +kernel
theorem dX9_besideOf_91 : decode cX9_besideOf 91 = .ok (.iadd, 1) := by decide +kernel
theorem dX9_besideOf_92 : decode cX9_besideOf 92 = .ok (.goto 5, 3) := by decide +kernel
theorem dX9_besideOf_95 : decode cX9_besideOf 95 = .ok (.iload 4, 2) := by decide +kernel
theorem dX9_besideOf_97 : decode cX9_besideOf 97 = .ok (.istore 7, 2) := by decide +kernel
theorem dX9_besideOf_99 : decode cX9_besideOf 99 = .ok (.iload 6, 2) := by decide +kernel
theorem dX9_besideOf_101 : decode cX9_besideOf 101 = .ok (.i2l, 1) := by decide +kernel
theorem dX9_besideOf_102 : decode cX9_besideOf 102 = .ok (.lconst 0, 1) := by decide +kernel
theorem dX9_besideOf_103 : decode cX9_besideOf 103 = .ok (.ldc2_w 210, 3) := by decide +kernel
theorem dX9_besideOf_106 : decode cX9_besideOf 106 = .ok (.invokestatic 89, 3) := by decide +kernel
theorem dX9_besideOf_109 : decode cX9_besideOf 109 = .ok (.ifCond .eq 51, 3) := by decide +kernel
theorem dX9_besideOf_112 : decode cX9_besideOf 112 = .ok (.iload 7, 2) := by decide +kernel
theorem dX9_besideOf_114 : decode cX9_besideOf 114 = .ok (.i2l, 1) := by decide +kernel
theorem dX9_besideOf_115 : decode cX9_besideOf 115 = .ok (.lconst 0, 1) := by decide +kernel
theorem dX9_besideOf_116 : decode cX9_besideOf 116 = .ok (.ldc2_w 210, 3) := by decide +kernel
theorem dX9_besideOf_119 : decode cX9_besideOf 119 = .ok (.invokestatic 89, 3) := by decide +kernel
theorem dX9_besideOf_122 : decode cX9_besideOf 122 = .ok (.ifCond .eq 38, 3) := by decide +kernel
theorem dX9_besideOf_125 : decode cX9_besideOf 125 = .ok (.aload_n 0, 1) := by decide +kernel
theorem dX9_besideOf_126 : decode cX9_besideOf 126 = .ok (.iload 6, 2) := by decide +kernel
theorem dX9_besideOf_128 : decode cX9_besideOf 128 = .ok (.iload 7, 2) := by decide +kernel
theorem dX9_besideOf_130 : decode cX9_besideOf 130 = .ok (.invokevirtual 216, 3) := by decide +kernel
theorem dX9_besideOf_133 : decode cX9_besideOf 133 = .ok (.ifCond .eq 27, 3) := by decide +kernel
theorem dX9_besideOf_136 : decode cX9_besideOf 136 = .ok (.iconst 2, 1) := by decide +kernel
theorem dX9_besideOf_137 : decode cX9_besideOf 137 = .ok (.iload 6, 2) := by decide +kernel
theorem dX9_besideOf_139 : decode cX9_besideOf 139 = .ok (.bipush 15, 2) := by decide +kernel
theorem dX9_besideOf_141 : decode cX9_besideOf 141 = .ok (.iload 7, 2) := by decide +kernel
theorem dX9_besideOf_143 : decode cX9_besideOf 143 = .ok (.imul, 1) := by decide +kernel
theorem dX9_besideOf_144 : decode cX9_besideOf 144 = .ok (.iadd, 1) := by decide +kernel
theorem dX9_besideOf_145 : decode cX9_besideOf 145 = .ok (.imul, 1) := by decide +kernel
theorem dX9_besideOf_146 : decode cX9_besideOf 146 = .ok (.iload 5, 2) := by decide +kernel
theorem dX9_besideOf_148 : decode cX9_besideOf 148 = .ok (.ifCond .eq 7, 3) := by decide +kernel
theorem dX9_besideOf_151 : decode cX9_besideOf 151 = .ok (.iconst 1, 1) := by decide +kernel
theorem dX9_besideOf_152 : decode cX9_besideOf 152 = .ok (.goto 4, 3) := by decide +kernel
theorem dX9_besideOf_155 : decode cX9_besideOf 155 = .ok (.iconst 0, 1) := by decide +kernel
theorem dX9_besideOf_156 : decode cX9_besideOf 156 = .ok (.iadd, 1) := by decide +kernel
theorem dX9_besideOf_157 : decode cX9_besideOf 157 = .ok (.goto 4, 3) := by decide +kernel
theorem dX9_besideOf_160 : decode cX9_besideOf 160 = .ok (.iconst (-1), 1) := by decide +kernel
theorem dX9_besideOf_161 : decode cX9_besideOf 161 = .ok (.ireturn, 1) := by decide +kernel
theorem dX9_isCut_0 : decode cX9_isCut 0 = .ok (.iload_n 1, 1) := by decide +kernel
theorem dX9_isCut_1 : decode cX9_isCut 1 = .ok (.iconst 2, 1) := by decide +kernel
theorem dX9_isCut_2 : decode cX9_isCut 2 = .ok (.idiv, 1) := by decide +kernel
theorem dX9_isCut_3 : decode cX9_isCut 3 = .ok (.bipush 15, 2) := by decide +kernel
theorem dX9_isCut_5 : decode cX9_isCut 5 = .ok (.irem, 1) := by decide +kernel
theorem dX9_isCut_6 : decode cX9_isCut 6 = .ok (.istore 4, 2) := by decide +kernel
theorem dX9_isCut_8 : decode cX9_isCut 8 = .ok (.iload_n 1, 1) := by decide +kernel
theorem dX9_isCut_9 : decode cX9_isCut 9 = .ok (.bipush 30, 2) := by decide +kernel
theorem dX9_isCut_11 : decode cX9_isCut 11 = .ok (.idiv, 1) := by decide +kernel
theorem dX9_isCut_12 : decode cX9_isCut 12 = .ok (.istore 5, 2) := by decide +kernel
theorem dX9_isCut_14 : decode cX9_isCut 14 = .ok (.aload_n 0, 1) := by decide +kernel
theorem dX9_isCut_15 : decode cX9_isCut 15 = .ok (.iload 4, 2) := by decide +kernel
theorem dX9_isCut_17 : decode cX9_isCut 17 = .ok (.iload 5, 2) := by decide +kernel
theorem dX9_isCut_19 : decode cX9_isCut 19 = .ok (.iload_n 3, 1) := by decide +kernel
theorem dX9_isCut_20 : decode cX9_isCut 20 = .ok (.invokevirtual 221, 3) := by decide +kernel
theorem dX9_isCut_23 : decode cX9_isCut 23 = .ok (.istore 6, 2) := by decide +kernel
theorem dX9_isCut_25 : decode cX9_isCut 25 = .ok (.aload_n 0, 1) := by decide +kernel
theorem dX9_isCut_26 : decode cX9_isCut 26 = .ok (.iload 4, 2) := by decide +kernel
theorem dX9_isCut_28 : decode cX9_isCut 28 = .ok (.iconst 1, 1) := by decide +kernel
theorem dX9_isCut_29 : decode cX9_isCut 29 = .ok (.iadd, 1) := by decide +kernel
theorem dX9_isCut_30 : decode cX9_isCut 30 = .ok (.iload 5, 2) := by decide +kernel
theorem dX9_isCut_32 : decode cX9_isCut 32 = .ok (.iconst 1, 1) := by decide +kernel
theorem dX9_isCut_33 : decode cX9_isCut 33 = .ok (.iadd, 1) := by decide +kernel
theorem dX9_isCut_34 : decode cX9_isCut 34 = .ok (.iload_n 3, 1) := by decide +kernel
theorem dX9_isCut_35 : decode cX9_isCut 35 = .ok (.invokevirtual 221, 3) := by decide +kernel
theorem dX9_isCut_38 : decode cX9_isCut 38 = .ok (.istore 7, 2) := by decide +kernel
theorem dX9_isCut_40 : decode cX9_isCut 40 = .ok (.aload_n 0, 1) := by decide +kernel
theorem dX9_isCut_41 : decode cX9_isCut 41 = .ok (.iload 4, 2) := by decide +kernel
theorem dX9_isCut_43 : decode cX9_isCut 43 = .ok (.iconst 1, 1) := by decide +kernel
theorem dX9_isCut_44 : decode cX9_isCut 44 = .ok (.iadd, 1) := by decide +kernel
theorem dX9_isCut_45 : decode cX9_isCut 45 = .ok (.iload_n 1, 1) := by decide +kernel
theorem dX9_isCut_46 : decode cX9_isCut 46 = .ok (.iconst 2, 1) := by decide +kernel
theorem dX9_isCut_47 : decode cX9_isCut 47 = .ok (.irem, 1) := by decide +kernel
theorem dX9_isCut_48 : decode cX9_isCut 48 = .ok (.isub, 1) := by decide +kernel
theorem dX9_isCut_49 : decode cX9_isCut 49 = .ok (.iload 5, 2) := by decide +kernel
theorem dX9_isCut_51 : decode cX9_isCut 51 = .ok (.iload_n 1, 1) := by decide +kernel
theorem dX9_isCut_52 : decode cX9_isCut 52 = .ok (.iconst 2, 1) := by decide +kernel
theorem dX9_isCut_53 : decode cX9_isCut 53 = .ok (.irem, 1) := by decide +kernel
theorem dX9_isCut_54 : decode cX9_isCut 54 = .ok (.iadd, 1) := by decide +kernel
theorem dX9_isCut_55 : decode cX9_isCut 55 = .ok (.iload_n 3, 1) := by decide +kernel
theorem dX9_isCut_56 : decode cX9_isCut 56 = .ok (.invokevirtual 221, 3) := by decide +kernel
theorem dX9_isCut_59 : decode cX9_isCut 59 = .ok (.istore 8, 2) := by decide +kernel
theorem dX9_isCut_61 : decode cX9_isCut 61 = .ok (.iload_n 2, 1) := by decide +kernel
theorem dX9_isCut_62 : decode cX9_isCut 62 = .ok (.ifCond .ne 16, 3) := by decide +kernel
theorem dX9_isCut_65 : decode cX9_isCut 65 = .ok (.iload 6, 2) := by decide +kernel
theorem dX9_isCut_67 : decode cX9_isCut 67 = .ok (.iload 7, 2) := by decide +kernel
theorem dX9_isCut_69 : decode cX9_isCut 69 = .ok (.if_icmp .eq 7, 3) := by decide +kernel
theorem dX9_isCut_72 : decode cX9_isCut 72 = .ok (.iconst 1, 1) := by decide +kernel
theorem dX9_isCut_73 : decode cX9_isCut 73 = .ok (.goto 4, 3) := by decide +kernel
theorem dX9_isCut_76 : decode cX9_isCut 76 = .ok (.iconst 0, 1) := by decide +kernel
theorem dX9_isCut_77 : decode cX9_isCut 77 = .ok (.ireturn, 1) := by decide +kernel
theorem dX9_isCut_78 : decode cX9_isCut 78 = .ok (.iload_n 2, 1) := by decide +kernel
theorem dX9_isCut_79 : decode cX9_isCut 79 = .ok (.iconst 1, 1) := by decide +kernel
theorem dX9_isCut_80 : decode cX9_isCut 80 = .ok (.if_icmp .ne 7, 3) := by decide +kernel
theorem dX9_isCut_83 : decode cX9_isCut 83 = .ok (.iconst 1, 1) := by decide +kernel
theorem dX9_isCut_84 : decode cX9_isCut 84 = .ok (.goto 4, 3) := by decide +kernel
theorem dX9_isCut_87 : decode cX9_isCut 87 = .ok (.iconst 0, 1) := by decide +kernel
theorem dX9_isCut_88 : decode cX9_isCut 88 = .ok (.istore 9, 2) := by decide +kernel
theorem dX9_isCut_90 : decode cX9_isCut 90 = .ok (.iload 8, 2) := by decide +kernel
theorem dX9_isCut_92 : decode cX9_isCut 92 = .ok (.iload 9, 2) := by decide +kernel
theorem dX9_isCut_94 : decode cX9_isCut 94 = .ok (.iload_n 1, 1) := by decide +kernel
theorem dX9_isCut_95 : decode cX9_isCut 95 = .ok (.iconst 2, 1) := by decide +kernel
theorem dX9_isCut_96 : decode cX9_isCut 96 = .ok (.irem, 1) := by decide +kernel
theorem dX9_isCut_97 : decode cX9_isCut 97 = .ok (.ifCond .ne 7, 3) := by decide +kernel
theorem dX9_isCut_100 : decode cX9_isCut 100 = .ok (.iconst 1, 1) := by decide +kernel
theorem dX9_isCut_101 : decode cX9_isCut 101 = .ok (.goto 4, 3) := by decide +kernel
theorem dX9_isCut_104 : decode cX9_isCut 104 = .ok (.iconst 0, 1) := by decide +kernel
theorem dX9_isCut_105 : decode cX9_isCut 105 = .ok (.if_icmp .ne 8, 3) := by decide +kernel
theorem dX9_isCut_108 : decode cX9_isCut 108 = .ok (.iload 6, 2) := by decide +kernel
theorem dX9_isCut_110 : decode cX9_isCut 110 = .ok (.goto 5, 3) := by decide +kernel
theorem dX9_isCut_113 : decode cX9_isCut 113 = .ok (.iload 7, 2) := by decide +kernel
theorem dX9_isCut_115 : decode cX9_isCut 115 = .ok (.if_icmp .eq 7, 3) := by decide +kernel
theorem dX9_isCut_118 : decode cX9_isCut 118 = .ok (.iconst 1, 1) := by decide +kernel
theorem dX9_isCut_119 : decode cX9_isCut 119 = .ok (.goto 4, 3) := by decide +kernel
theorem dX9_isCut_122 : decode cX9_isCut 122 = .ok (.iconst 0, 1) := by decide +kernel
theorem dX9_isCut_123 : decode cX9_isCut 123 = .ok (.ireturn, 1) := by decide +kernel
theorem dX9_lines_0 : decode cX9_lines 0 = .ok (.iload_n 1, 1) := by decide +kernel
theorem dX9_lines_1 : decode cX9_lines 1 = .ok (.invokestatic 116, 3) := by decide +kernel
theorem dX9_lines_4 : decode cX9_lines 4 = .ok (.ifCond .eq 17, 3) := by decide +kernel
theorem dX9_lines_7 : decode cX9_lines 7 = .ok (.iload_n 2, 1) := by decide +kernel
theorem dX9_lines_8 : decode cX9_lines 8 = .ok (.i2l, 1) := by decide +kernel
theorem dX9_lines_9 : decode cX9_lines 9 = .ok (.ldc2_w 212, 3) := by decide +kernel
theorem dX9_lines_12 : decode cX9_lines 12 = .ok (.ldc2_w 214, 3) := by decide +kernel
theorem dX9_lines_15 : decode cX9_lines 15 = .ok (.invokestatic 89, 3) := by decide +kernel
theorem dX9_lines_18 : decode cX9_lines 18 = .ok (.ifCond .ne 5, 3) := by decide +kernel
theorem dX9_lines_21 : decode cX9_lines 21 = .ok (.iconst (-1), 1) := by decide +kernel
theorem dX9_lines_22 : decode cX9_lines 22 = .ok (.ireturn, 1) := by decide +kernel
theorem dX9_lines_23 : decode cX9_lines 23 = .ok (.aload_n 0, 1) := by decide +kernel
theorem dX9_lines_24 : decode cX9_lines 24 = .ok (.iload_n 1, 1) := by decide +kernel
theorem dX9_lines_25 : decode cX9_lines 25 = .ok (.invokevirtual 207, 3) := by decide +kernel
theorem dX9_lines_28 : decode cX9_lines 28 = .ok (.iconst 0, 1) := by decide +kernel
theorem dX9_lines_29 : decode cX9_lines 29 = .ok (.istore 4, 2) := by decide +kernel
theorem dX9_lines_31 : decode cX9_lines 31 = .ok (.iload 4, 2) := by decide +kernel
theorem dX9_lines_33 : decode cX9_lines 33 = .ok (.sipush 450, 3) := by decide +kernel
theorem dX9_lines_36 : decode cX9_lines 36 = .ok (.if_icmp .ge 41, 3) := by decide +kernel
theorem dX9_lines_39 : decode cX9_lines 39 = .ok (.aload_n 0, 1) := by decide +kernel
theorem dX9_lines_40 : decode cX9_lines 40 = .ok (.getfield 72, 3) := by decide +kernel
theorem dX9_lines_43 : decode cX9_lines 43 = .ok (.iload 4, 2) := by decide +kernel
theorem dX9_lines_45 : decode cX9_lines 45 = .ok (.aload_n 0, 1) := by decide +kernel
theorem dX9_lines_46 : decode cX9_lines 46 = .ok (.iload 4, 2) := by decide +kernel
theorem dX9_lines_48 : decode cX9_lines 48 = .ok (.invokevirtual 224, 3) := by decide +kernel
theorem dX9_lines_51 : decode cX9_lines 51 = .ok (.ifCond .eq 18, 3) := by decide +kernel
theorem dX9_lines_54 : decode cX9_lines 54 = .ok (.aload_n 0, 1) := by decide +kernel
theorem dX9_lines_55 : decode cX9_lines 55 = .ok (.iload 4, 2) := by decide +kernel
theorem dX9_lines_57 : decode cX9_lines 57 = .ok (.iload_n 2, 1) := by decide +kernel
theorem dX9_lines_58 : decode cX9_lines 58 = .ok (.invokevirtual 227, 3) := by decide +kernel
theorem dX9_lines_61 : decode cX9_lines 61 = .ok (.ifCond .eq 8, 3) := by decide +kernel
theorem dX9_lines_64 : decode cX9_lines 64 = .ok (.iload 4, 2) := by decide +kernel
theorem dX9_lines_66 : decode cX9_lines 66 = .ok (.goto 4, 3) := by decide +kernel
theorem dX9_lines_69 : decode cX9_lines 69 = .ok (.iconst (-1), 1) := by decide +kernel
theorem dX9_lines_70 : decode cX9_lines 70 = .ok (.iastore, 1) := by decide +kernel
theorem dX9_lines_71 : decode cX9_lines 71 = .ok (.iinc 4 1, 3) := by decide +kernel
theorem dX9_lines_74 : decode cX9_lines 74 = .ok (.goto (-43), 3) := by decide +kernel
theorem dX9_lines_77 : decode cX9_lines 77 = .ok (.iconst 1, 1) := by decide +kernel
theorem dX9_lines_78 : decode cX9_lines 78 = .ok (.istore 4, 2) := by decide +kernel
theorem dX9_lines_80 : decode cX9_lines 80 = .ok (.iload 4, 2) := by decide +kernel
theorem dX9_lines_82 : decode cX9_lines 82 = .ok (.ifCond .eq 112, 3) := by decide +kernel
theorem dX9_lines_85 : decode cX9_lines 85 = .ok (.iconst 0, 1) := by decide +kernel
theorem dX9_lines_86 : decode cX9_lines 86 = .ok (.istore 4, 2) := by decide +kernel
theorem dX9_lines_88 : decode cX9_lines 88 = .ok (.iconst 0, 1) := by decide +kernel
theorem dX9_lines_89 : decode cX9_lines 89 = .ok (.istore 5, 2) := by decide +kernel
theorem dX9_lines_91 : decode cX9_lines 91 = .ok (.iload 5, 2) := by decide +kernel
theorem dX9_lines_93 : decode cX9_lines 93 = .ok (.sipush 450, 3) := by decide +kernel
theorem dX9_lines_96 : decode cX9_lines 96 = .ok (.if_icmp .ge 95, 3) := by decide +kernel
theorem dX9_lines_99 : decode cX9_lines 99 = .ok (.iconst 0, 1) := by decide +kernel
theorem dX9_lines_100 : decode cX9_lines 100 = .ok (.istore 6, 2) := by decide +kernel
theorem dX9_lines_102 : decode cX9_lines 102 = .ok (.iload 6, 2) := by decide +kernel
theorem dX9_lines_104 : decode cX9_lines 104 = .ok (.iconst 3, 1) := by decide +kernel
theorem dX9_lines_105 : decode cX9_lines 105 = .ok (.if_icmp .ge 80, 3) := by decide +kernel
theorem dX9_lines_108 : decode cX9_lines 108 = .ok (.aload_n 0, 1) := by decide +kernel
theorem dX9_lines_109 : decode cX9_lines 109 = .ok (.getfield 72, 3) := by decide +kernel
theorem dX9_lines_112 : decode cX9_lines 112 = .ok (.iload 5, 2) := by decide +kernel
theorem dX9_lines_114 : decode cX9_lines 114 = .ok (.iaload, 1) := by decide +kernel
theorem dX9_lines_115 : decode cX9_lines 115 = .ok (.ifCond .lt 70, 3) := by decide +kernel
theorem dX9_lines_118 : decode cX9_lines 118 = .ok (.aload_n 0, 1) := by decide +kernel
theorem dX9_lines_119 : decode cX9_lines 119 = .ok (.iload 5, 2) := by decide +kernel
theorem dX9_lines_121 : decode cX9_lines 121 = .ok (.iload 6, 2) := by decide +kernel
theorem dX9_lines_123 : decode cX9_lines 123 = .ok (.invokevirtual 230, 3) := by decide +kernel
theorem dX9_lines_126 : decode cX9_lines 126 = .ok (.istore 7, 2) := by decide +kernel
theorem dX9_lines_128 : decode cX9_lines 128 = .ok (.iload 7, 2) := by decide +kernel
theorem dX9_lines_130 : decode cX9_lines 130 = .ok (.ifCond .lt 49, 3) := by decide +kernel
theorem dX9_lines_133 : decode cX9_lines 133 = .ok (.aload_n 0, 1) := by decide +kernel
theorem dX9_lines_134 : decode cX9_lines 134 = .ok (.iload 5, 2) := by decide +kernel
theorem dX9_lines_136 : decode cX9_lines 136 = .ok (.iload 6, 2) := by decide +kernel
theorem dX9_lines_138 : decode cX9_lines 138 = .ok (.iload_n 2, 1) := by decide +kernel
theorem dX9_lines_139 : decode cX9_lines 139 = .ok (.invokevirtual 233, 3) := by decide +kernel
theorem dX9_lines_142 : decode cX9_lines 142 = .ok (.ifCond .eq 37, 3) := by decide +kernel
theorem dX9_lines_145 : decode cX9_lines 145 = .ok (.aload_n 0, 1) := by decide +kernel
theorem dX9_lines_146 : decode cX9_lines 146 = .ok (.getfield 72, 3) := by decide +kernel
theorem dX9_lines_149 : decode cX9_lines 149 = .ok (.iload 7, 2) := by decide +kernel
theorem dX9_lines_151 : decode cX9_lines 151 = .ok (.iaload, 1) := by decide +kernel
theorem dX9_lines_152 : decode cX9_lines 152 = .ok (.aload_n 0, 1) := by decide +kernel
theorem dX9_lines_153 : decode cX9_lines 153 = .ok (.getfield 72, 3) := by decide +kernel
theorem dX9_lines_156 : decode cX9_lines 156 = .ok (.iload 5, 2) := by decide +kernel
theorem dX9_lines_158 : decode cX9_lines 158 = .ok (.iaload, 1) := by decide +kernel
theorem dX9_lines_159 : decode cX9_lines 159 = .ok (.if_icmp .ge 20, 3) := by decide +kernel
theorem dX9_lines_162 : decode cX9_lines 162 = .ok (.aload_n 0, 1) := by decide +kernel
theorem dX9_lines_163 : decode cX9_lines 163 = .ok (.getfield 72, 3) := by decide +kernel
theorem dX9_lines_166 : decode cX9_lines 166 = .ok (.iload 5, 2) := by decide +kernel
theorem dX9_lines_168 : decode cX9_lines 168 = .ok (.aload_n 0, 1) := by decide +kernel
theorem dX9_lines_169 : decode cX9_lines 169 = .ok (.getfield 72, 3) := by decide +kernel
theorem dX9_lines_172 : decode cX9_lines 172 = .ok (.iload 7, 2) := by decide +kernel
theorem dX9_lines_174 : decode cX9_lines 174 = .ok (.iaload, 1) := by decide +kernel
theorem dX9_lines_175 : decode cX9_lines 175 = .ok (.iastore, 1) := by decide +kernel
theorem dX9_lines_176 : decode cX9_lines 176 = .ok (.iconst 1, 1) := by decide +kernel
theorem dX9_lines_177 : decode cX9_lines 177 = .ok (.istore 4, 2) := by decide +kernel
theorem dX9_lines_179 : decode cX9_lines 179 = .ok (.iinc 6 1, 3) := by decide +kernel
theorem dX9_lines_182 : decode cX9_lines 182 = .ok (.goto (-80), 3) := by decide +kernel
theorem dX9_lines_185 : decode cX9_lines 185 = .ok (.iinc 5 1, 3) := by decide +kernel
theorem dX9_lines_188 : decode cX9_lines 188 = .ok (.goto (-97), 3) := by decide +kernel
theorem dX9_lines_191 : decode cX9_lines 191 = .ok (.goto (-111), 3) := by decide +kernel
theorem dX9_lines_194 : decode cX9_lines 194 = .ok (.iconst 0, 1) := by decide +kernel
theorem dX9_lines_195 : decode cX9_lines 195 = .ok (.istore 5, 2) := by decide +kernel
theorem dX9_lines_197 : decode cX9_lines 197 = .ok (.iconst 0, 1) := by decide +kernel
theorem dX9_lines_198 : decode cX9_lines 198 = .ok (.istore 6, 2) := by decide +kernel
theorem dX9_lines_200 : decode cX9_lines 200 = .ok (.iload 6, 2) := by decide +kernel
theorem dX9_lines_202 : decode cX9_lines 202 = .ok (.sipush 450, 3) := by decide +kernel
theorem dX9_lines_205 : decode cX9_lines 205 = .ok (.if_icmp .ge 45, 3) := by decide +kernel
theorem dX9_lines_208 : decode cX9_lines 208 = .ok (.iload 5, 2) := by decide +kernel
theorem dX9_lines_210 : decode cX9_lines 210 = .ok (.aload_n 0, 1) := by decide +kernel
theorem dX9_lines_211 : decode cX9_lines 211 = .ok (.getfield 72, 3) := by decide +kernel
theorem dX9_lines_214 : decode cX9_lines 214 = .ok (.iload 6, 2) := by decide +kernel
theorem dX9_lines_216 : decode cX9_lines 216 = .ok (.iaload, 1) := by decide +kernel
theorem dX9_lines_217 : decode cX9_lines 217 = .ok (.iload 6, 2) := by decide +kernel
theorem dX9_lines_219 : decode cX9_lines 219 = .ok (.if_icmp .ne 21, 3) := by decide +kernel
theorem dX9_lines_222 : decode cX9_lines 222 = .ok (.iload_n 3, 1) := by decide +kernel
theorem dX9_lines_223 : decode cX9_lines 223 = .ok (.ifCond .eq 13, 3) := by decide +kernel
theorem dX9_lines_226 : decode cX9_lines 226 = .ok (.aload_n 0, 1) := by decide +kernel
theorem dX9_lines_227 : decode cX9_lines 227 = .ok (.iload 6, 2) := by decide +kernel
theorem dX9_lines_229 : decode cX9_lines 229 = .ok (.iload_n 2, 1) := by decide +kernel
theorem dX9_lines_230 : decode cX9_lines 230 = .ok (.invokevirtual 236, 3) := by decide +kernel
theorem dX9_lines_233 : decode cX9_lines 233 = .ok (.ifCond .eq 7, 3) := by decide +kernel
theorem dX9_lines_236 : decode cX9_lines 236 = .ok (.iconst 1, 1) := by decide +kernel
theorem dX9_lines_237 : decode cX9_lines 237 = .ok (.goto 4, 3) := by decide +kernel
theorem dX9_lines_240 : decode cX9_lines 240 = .ok (.iconst 0, 1) := by decide +kernel
theorem dX9_lines_241 : decode cX9_lines 241 = .ok (.iadd, 1) := by decide +kernel
theorem dX9_lines_242 : decode cX9_lines 242 = .ok (.istore 5, 2) := by decide +kernel
theorem dX9_lines_244 : decode cX9_lines 244 = .ok (.iinc 6 1, 3) := by decide +kernel
theorem dX9_lines_247 : decode cX9_lines 247 = .ok (.goto (-47), 3) := by decide +kernel
theorem dX9_lines_250 : decode cX9_lines 250 = .ok (.iload 5, 2) := by decide +kernel
theorem dX9_lines_252 : decode cX9_lines 252 = .ok (.ireturn, 1) := by decide +kernel
theorem dX9_isClosed_0 : decode cX9_isClosed 0 = .ok (.iconst 1, 1) := by decide +kernel
theorem dX9_isClosed_1 : decode cX9_isClosed 1 = .ok (.istore_n 3, 1) := by decide +kernel
theorem dX9_isClosed_2 : decode cX9_isClosed 2 = .ok (.iconst 0, 1) := by decide +kernel
theorem dX9_isClosed_3 : decode cX9_isClosed 3 = .ok (.istore 4, 2) := by decide +kernel
theorem dX9_isClosed_5 : decode cX9_isClosed 5 = .ok (.iload 4, 2) := by decide +kernel
theorem dX9_isClosed_7 : decode cX9_isClosed 7 = .ok (.sipush 450, 3) := by decide +kernel
theorem dX9_isClosed_10 : decode cX9_isClosed 10 = .ok (.if_icmp .ge 68, 3) := by decide +kernel
theorem dX9_isClosed_13 : decode cX9_isClosed 13 = .ok (.iconst 0, 1) := by decide +kernel
theorem dX9_isClosed_14 : decode cX9_isClosed 14 = .ok (.istore 5, 2) := by decide +kernel
theorem dX9_isClosed_16 : decode cX9_isClosed 16 = .ok (.iload 5, 2) := by decide +kernel
theorem dX9_isClosed_18 : decode cX9_isClosed 18 = .ok (.iconst 3, 1) := by decide +kernel
theorem dX9_isClosed_19 : decode cX9_isClosed 19 = .ok (.if_icmp .ge 53, 3) := by decide +kernel
theorem dX9_isClosed_22 : decode cX9_isClosed 22 = .ok (.aload_n 0, 1) := by decide +kernel
theorem dX9_isClosed_23 : decode cX9_isClosed 23 = .ok (.getfield 72, 3) := by decide +kernel
theorem dX9_isClosed_26 : decode cX9_isClosed 26 = .ok (.iload 4, 2) := by decide +kernel
theorem dX9_isClosed_28 : decode cX9_isClosed 28 = .ok (.iaload, 1) := by decide +kernel
theorem dX9_isClosed_29 : decode cX9_isClosed 29 = .ok (.iload_n 1, 1) := by decide +kernel
theorem dX9_isClosed_30 : decode cX9_isClosed 30 = .ok (.if_icmp .ne 42, 3) := by decide +kernel
theorem dX9_isClosed_33 : decode cX9_isClosed 33 = .ok (.iload_n 3, 1) := by decide +kernel
theorem dX9_isClosed_34 : decode cX9_isClosed 34 = .ok (.ifCond .eq 30, 3) := by decide +kernel
theorem dX9_isClosed_37 : decode cX9_isClosed 37 = .ok (.aload_n 0, 1) := by decide +kernel
theorem dX9_isClosed_38 : decode cX9_isClosed 38 = .ok (.iload 4, 2) := by decide +kernel
theorem dX9_isClosed_40 : decode cX9_isClosed 40 = .ok (.iload 5, 2) := by decide +kernel
theorem dX9_isClosed_42 : decode cX9_isClosed 42 = .ok (.iload_n 2, 1) := by decide +kernel
theorem dX9_isClosed_43 : decode cX9_isClosed 43 = .ok (.invokevirtual 233, 3) := by decide +kernel
theorem dX9_isClosed_46 : decode cX9_isClosed 46 = .ok (.ifCond .eq 14, 3) := by decide +kernel
theorem dX9_isClosed_49 : decode cX9_isClosed 49 = .ok (.aload_n 0, 1) := by decide +kernel
theorem dX9_isClosed_50 : decode cX9_isClosed 50 = .ok (.iload 4, 2) := by decide +kernel
theorem dX9_isClosed_52 : decode cX9_isClosed 52 = .ok (.iload 5, 2) := by decide +kernel
theorem dX9_isClosed_54 : decode cX9_isClosed 54 = .ok (.invokevirtual 230, 3) := by decide +kernel
theorem dX9_isClosed_57 : decode cX9_isClosed 57 = .ok (.ifCond .lt 7, 3) := by decide +kernel
theorem dX9_isClosed_60 : decode cX9_isClosed 60 = .ok (.iconst 1, 1) := by decide +kernel
theorem dX9_isClosed_61 : decode cX9_isClosed 61 = .ok (.goto 4, 3) := by decide +kernel
theorem dX9_isClosed_64 : decode cX9_isClosed 64 = .ok (.iconst 0, 1) := by decide +kernel
theorem dX9_isClosed_65 : decode cX9_isClosed 65 = .ok (.istore_n 3, 1) := by decide +kernel
theorem dX9_isClosed_66 : decode cX9_isClosed 66 = .ok (.iinc 5 1, 3) := by decide +kernel
theorem dX9_isClosed_69 : decode cX9_isClosed 69 = .ok (.goto (-53), 3) := by decide +kernel
theorem dX9_isClosed_72 : decode cX9_isClosed 72 = .ok (.iinc 4 1, 3) := by decide +kernel
theorem dX9_isClosed_75 : decode cX9_isClosed 75 = .ok (.goto (-70), 3) := by decide +kernel
theorem dX9_isClosed_78 : decode cX9_isClosed 78 = .ok (.iload_n 3, 1) := by decide +kernel
theorem dX9_isClosed_79 : decode cX9_isClosed 79 = .ok (.ireturn, 1) := by decide +kernel
theorem dX9_changed_0 : decode cX9_changed 0 = .ok (.iload_n 1, 1) := by decide +kernel
theorem dX9_changed_1 : decode cX9_changed 1 = .ok (.i2l, 1) := by decide +kernel
theorem dX9_changed_2 : decode cX9_changed 2 = .ok (.lconst 0, 1) := by decide +kernel
theorem dX9_changed_3 : decode cX9_changed 3 = .ok (.ldc2_w 139, 3) := by decide +kernel
theorem dX9_changed_6 : decode cX9_changed 6 = .ok (.invokestatic 89, 3) := by decide +kernel
theorem dX9_changed_9 : decode cX9_changed 9 = .ok (.ifCond .eq 15, 3) := by decide +kernel
theorem dX9_changed_12 : decode cX9_changed 12 = .ok (.iload_n 2, 1) := by decide +kernel
theorem dX9_changed_13 : decode cX9_changed 13 = .ok (.i2l, 1) := by decide +kernel
theorem dX9_changed_14 : decode cX9_changed 14 = .ok (.lconst 0, 1) := by decide +kernel
theorem dX9_changed_15 : decode cX9_changed 15 = .ok (.ldc2_w 87, 3) := by decide +kernel
theorem dX9_changed_18 : decode cX9_changed 18 = .ok (.invokestatic 89, 3) := by decide +kernel
theorem dX9_changed_21 : decode cX9_changed 21 = .ok (.ifCond .ne 6, 3) := by decide +kernel
theorem dX9_changed_24 : decode cX9_changed 24 = .ok (.ldc 239, 2) := by decide +kernel
theorem dX9_changed_26 : decode cX9_changed 26 = .ok (.ireturn, 1) := by decide +kernel
theorem dX9_changed_27 : decode cX9_changed 27 = .ok (.aload_n 0, 1) := by decide +kernel
theorem dX9_changed_28 : decode cX9_changed 28 = .ok (.iconst 0, 1) := by decide +kernel
theorem dX9_changed_29 : decode cX9_changed 29 = .ok (.invokevirtual 207, 3) := by decide +kernel
theorem dX9_changed_32 : decode cX9_changed 32 = .ok (.iconst 0, 1) := by decide +kernel
theorem dX9_changed_33 : decode cX9_changed 33 = .ok (.istore_n 3, 1) := by decide +kernel
theorem dX9_changed_34 : decode cX9_changed 34 = .ok (.iload_n 3, 1) := by decide +kernel
theorem dX9_changed_35 : decode cX9_changed 35 = .ok (.sipush 256, 3) := by decide +kernel
theorem dX9_changed_38 : decode cX9_changed 38 = .ok (.if_icmp .ge 21, 3) := by decide +kernel
theorem dX9_changed_41 : decode cX9_changed 41 = .ok (.aload_n 0, 1) := by decide +kernel
theorem dX9_changed_42 : decode cX9_changed 42 = .ok (.getfield 75, 3) := by decide +kernel
theorem dX9_changed_45 : decode cX9_changed 45 = .ok (.iload_n 3, 1) := by decide +kernel
theorem dX9_changed_46 : decode cX9_changed 46 = .ok (.aload_n 0, 1) := by decide +kernel
theorem dX9_changed_47 : decode cX9_changed 47 = .ok (.getfield 69, 3) := by decide +kernel
theorem dX9_changed_50 : decode cX9_changed 50 = .ok (.iload_n 3, 1) := by decide +kernel
theorem dX9_changed_51 : decode cX9_changed 51 = .ok (.iaload, 1) := by decide +kernel
theorem dX9_changed_52 : decode cX9_changed 52 = .ok (.iastore, 1) := by decide +kernel
theorem dX9_changed_53 : decode cX9_changed 53 = .ok (.iinc 3 1, 3) := by decide +kernel
theorem dX9_changed_56 : decode cX9_changed 56 = .ok (.goto (-22), 3) := by decide +kernel
theorem dX9_changed_59 : decode cX9_changed 59 = .ok (.aload_n 0, 1) := by decide +kernel
theorem dX9_changed_60 : decode cX9_changed 60 = .ok (.iconst 1, 1) := by decide +kernel
theorem dX9_changed_61 : decode cX9_changed 61 = .ok (.invokevirtual 207, 3) := by decide +kernel
theorem dX9_changed_64 : decode cX9_changed 64 = .ok (.iconst 0, 1) := by decide +kernel
theorem dX9_changed_65 : decode cX9_changed 65 = .ok (.istore_n 3, 1) := by decide +kernel
theorem dX9_changed_66 : decode cX9_changed 66 = .ok (.iconst 0, 1) := by decide +kernel
theorem dX9_changed_67 : decode cX9_changed 67 = .ok (.istore 4, 2) := by decide +kernel
theorem dX9_changed_69 : decode cX9_changed 69 = .ok (.iload 4, 2) := by decide +kernel
theorem dX9_changed_71 : decode cX9_changed 71 = .ok (.sipush 256, 3) := by decide +kernel
theorem dX9_changed_74 : decode cX9_changed 74 = .ok (.if_icmp .ge 112, 3) := by decide +kernel
theorem dX9_changed_77 : decode cX9_changed 77 = .ok (.aload_n 0, 1) := by decide +kernel
theorem dX9_changed_78 : decode cX9_changed 78 = .ok (.getfield 69, 3) := by decide +kernel
theorem dX9_changed_81 : decode cX9_changed 81 = .ok (.iload 4, 2) := by decide +kernel
theorem dX9_changed_83 : decode cX9_changed 83 = .ok (.iaload, 1) := by decide +kernel
theorem dX9_changed_84 : decode cX9_changed 84 = .ok (.ldc 204, 2) := by decide +kernel
theorem dX9_changed_86 : decode cX9_changed 86 = .ok (.if_icmp .eq 94, 3) := by decide +kernel
theorem dX9_changed_89 : decode cX9_changed 89 = .ok (.aload_n 0, 1) := by decide +kernel
theorem dX9_changed_90 : decode cX9_changed 90 = .ok (.getfield 75, 3) := by decide +kernel
theorem dX9_changed_93 : decode cX9_changed 93 = .ok (.iload 4, 2) := by decide +kernel
theorem dX9_changed_95 : decode cX9_changed 95 = .ok (.iaload, 1) := by decide +kernel
theorem dX9_changed_96 : decode cX9_changed 96 = .ok (.ldc 204, 2) := by decide +kernel
theorem dX9_changed_98 : decode cX9_changed 98 = .ok (.if_icmp .eq 82, 3) := by decide +kernel
theorem dX9_changed_101 : decode cX9_changed 101 = .ok (.aload_n 0, 1) := by decide +kernel
theorem dX9_changed_102 : decode cX9_changed 102 = .ok (.getfield 69, 3) := by decide +kernel
theorem dX9_changed_105 : decode cX9_changed 105 = .ok (.iload 4, 2) := by decide +kernel
theorem dX9_changed_107 : decode cX9_changed 107 = .ok (.iaload, 1) := by decide +kernel
theorem dX9_changed_108 : decode cX9_changed 108 = .ok (.aload_n 0, 1) := by decide +kernel
theorem dX9_changed_109 : decode cX9_changed 109 = .ok (.getfield 75, 3) := by decide +kernel
theorem dX9_changed_112 : decode cX9_changed 112 = .ok (.iload 4, 2) := by decide +kernel
theorem dX9_changed_114 : decode cX9_changed 114 = .ok (.iaload, 1) := by decide +kernel
theorem dX9_changed_115 : decode cX9_changed 115 = .ok (.isub, 1) := by decide +kernel
theorem dX9_changed_116 : decode cX9_changed 116 = .ok (.istore 5, 2) := by decide +kernel
theorem dX9_changed_118 : decode cX9_changed 118 = .ok (.iload_n 3, 1) := by decide +kernel
theorem dX9_changed_119 : decode cX9_changed 119 = .ok (.iload_n 2, 1) := by decide +kernel
theorem dX9_changed_120 : decode cX9_changed 120 = .ok (.ifCond .ne 7, 3) := by decide +kernel
theorem dX9_changed_123 : decode cX9_changed 123 = .ok (.iconst 1, 1) := by decide +kernel
theorem dX9_changed_124 : decode cX9_changed 124 = .ok (.goto 54, 3) := by decide +kernel
theorem dX9_changed_127 : decode cX9_changed 127 = .ok (.iload_n 2, 1) := by decide +kernel
theorem dX9_changed_128 : decode cX9_changed 128 = .ok (.iconst 1, 1) := by decide +kernel
theorem dX9_changed_129 : decode cX9_changed 129 = .ok (.if_icmp .ne 22, 3) := by decide +kernel
theorem dX9_changed_132 : decode cX9_changed 132 = .ok (.iload 5, 2) := by decide +kernel
theorem dX9_changed_134 : decode cX9_changed 134 = .ok (.ifCond .le 13, 3) := by decide +kernel
theorem dX9_changed_137 : decode cX9_changed 137 = .ok (.iload 5, 2) := by decide +kernel
theorem dX9_changed_139 : decode cX9_changed 139 = .ok (.iload_n 1, 1) := by decide +kernel
theorem dX9_changed_140 : decode cX9_changed 140 = .ok (.if_icmp .lt 7, 3) := by decide +kernel
theorem dX9_changed_143 : decode cX9_changed 143 = .ok (.iconst 1, 1) := by decide +kernel
theorem dX9_changed_144 : decode cX9_changed 144 = .ok (.goto 34, 3) := by decide +kernel
theorem dX9_changed_147 : decode cX9_changed 147 = .ok (.iconst 0, 1) := by decide +kernel
theorem dX9_changed_148 : decode cX9_changed 148 = .ok (.goto 30, 3) := by decide +kernel
theorem dX9_changed_151 : decode cX9_changed 151 = .ok (.iload_n 2, 1) := by decide +kernel
theorem dX9_changed_152 : decode cX9_changed 152 = .ok (.iconst 2, 1) := by decide +kernel
theorem dX9_changed_153 : decode cX9_changed 153 = .ok (.if_icmp .ne 23, 3) := by decide +kernel
theorem dX9_changed_156 : decode cX9_changed 156 = .ok (.iload 5, 2) := by decide +kernel
theorem dX9_changed_158 : decode cX9_changed 158 = .ok (.ifCond .ge 14, 3) := by decide +kernel
theorem dX9_changed_161 : decode cX9_changed 161 = .ok (.iload 5, 2) := by decide +kernel
theorem dX9_changed_163 : decode cX9_changed 163 = .ok (.ineg, 1) := by decide +kernel
theorem dX9_changed_164 : decode cX9_changed 164 = .ok (.iload_n 1, 1) := by decide +kernel
theorem dX9_changed_165 : decode cX9_changed 165 = .ok (.if_icmp .lt 7, 3) := by decide +kernel
theorem dX9_changed_168 : decode cX9_changed 168 = .ok (.iconst 1, 1) := by decide +kernel
theorem dX9_changed_169 : decode cX9_changed 169 = .ok (.goto 9, 3) := by decide +kernel
theorem dX9_changed_172 : decode cX9_changed 172 = .ok (.iconst 0, 1) := by decide +kernel
theorem dX9_changed_173 : decode cX9_changed 173 = .ok (.goto 5, 3) := by decide +kernel
theorem dX9_changed_176 : decode cX9_changed 176 = .ok (.iload 5, 2) := by decide +kernel
theorem dX9_changed_178 : decode cX9_changed 178 = .ok (.iadd, 1) := by decide +kernel
theorem dX9_changed_179 : decode cX9_changed 179 = .ok (.istore_n 3, 1) := by decide +kernel
theorem dX9_changed_180 : decode cX9_changed 180 = .ok (.iinc 4 1, 3) := by decide +kernel
theorem dX9_changed_183 : decode cX9_changed 183 = .ok (.goto (-114), 3) := by decide +kernel
theorem dX9_changed_186 : decode cX9_changed 186 = .ok (.iload_n 3, 1) := by decide +kernel
theorem dX9_changed_187 : decode cX9_changed 187 = .ok (.ireturn, 1) := by decide +kernel
theorem dX9_type_0 : decode cX9_type 0 = .ok (.iload_n 3, 1) := by decide +kernel
theorem dX9_type_1 : decode cX9_type 1 = .ok (.i2l, 1) := by decide +kernel
theorem dX9_type_2 : decode cX9_type 2 = .ok (.lconst 1, 1) := by decide +kernel
theorem dX9_type_3 : decode cX9_type 3 = .ok (.ldc2_w 219, 3) := by decide +kernel
theorem dX9_type_6 : decode cX9_type 6 = .ok (.invokestatic 89, 3) := by decide +kernel
theorem dX9_type_9 : decode cX9_type 9 = .ok (.ifCond .ne 5, 3) := by decide +kernel
theorem dX9_type_12 : decode cX9_type 12 = .ok (.iconst (-1), 1) := by decide +kernel
theorem dX9_type_13 : decode cX9_type 13 = .ok (.ireturn, 1) := by decide +kernel
theorem dX9_type_14 : decode cX9_type 14 = .ok (.iload_n 3, 1) := by decide +kernel
theorem dX9_type_15 : decode cX9_type 15 = .ok (.iconst 1, 1) := by decide +kernel
theorem dX9_type_16 : decode cX9_type 16 = .ok (.isub, 1) := by decide +kernel
theorem dX9_type_17 : decode cX9_type 17 = .ok (.istore 4, 2) := by decide +kernel
theorem dX9_type_19 : decode cX9_type 19 = .ok (.iload 4, 2) := by decide +kernel
theorem dX9_type_21 : decode cX9_type 21 = .ok (.ifCond .lt 34, 3) := by decide +kernel
theorem dX9_type_24 : decode cX9_type 24 = .ok (.lload_n 1, 1) := by decide +kernel
theorem dX9_type_25 : decode cX9_type 25 = .ok (.bipush 8, 2) := by decide +kernel
theorem dX9_type_27 : decode cX9_type 27 = .ok (.iload 4, 2) := by decide +kernel
theorem dX9_type_29 : decode cX9_type 29 = .ok (.imul, 1) := by decide +kernel
theorem dX9_type_30 : decode cX9_type 30 = .ok (.lshr, 1) := by decide +kernel
theorem dX9_type_31 : decode cX9_type 31 = .ok (.ldc2_w 240, 3) := by decide +kernel
theorem dX9_type_34 : decode cX9_type 34 = .ok (.land, 1) := by decide +kernel
theorem dX9_type_35 : decode cX9_type 35 = .ok (.ldc2_w 242, 3) := by decide +kernel
theorem dX9_type_38 : decode cX9_type 38 = .ok (.ldc2_w 244, 3) := by decide +kernel
theorem dX9_type_41 : decode cX9_type 41 = .ok (.invokestatic 89, 3) := by decide +kernel
theorem dX9_type_44 : decode cX9_type 44 = .ok (.ifCond .ne 5, 3) := by decide +kernel
theorem dX9_type_47 : decode cX9_type 47 = .ok (.iconst (-1), 1) := by decide +kernel
theorem dX9_type_48 : decode cX9_type 48 = .ok (.ireturn, 1) := by decide +kernel
theorem dX9_type_49 : decode cX9_type 49 = .ok (.iinc 4 (-1), 3) := by decide +kernel
theorem dX9_type_52 : decode cX9_type 52 = .ok (.goto (-33), 3) := by decide +kernel
theorem dX9_type_55 : decode cX9_type 55 = .ok (.aload_n 0, 1) := by decide +kernel
theorem dX9_type_56 : decode cX9_type 56 = .ok (.getfield 246, 3) := by decide +kernel
theorem dX9_type_59 : decode cX9_type 59 = .ok (.iload_n 3, 1) := by decide +kernel
theorem dX9_type_60 : decode cX9_type 60 = .ok (.iadd, 1) := by decide +kernel
theorem dX9_type_61 : decode cX9_type 61 = .ok (.bipush 80, 2) := by decide +kernel
theorem dX9_type_63 : decode cX9_type 63 = .ok (.if_icmp .le 6, 3) := by decide +kernel
theorem dX9_type_66 : decode cX9_type 66 = .ok (.bipush (-3), 2) := by decide +kernel
theorem dX9_type_68 : decode cX9_type 68 = .ok (.ireturn, 1) := by decide +kernel
theorem dX9_type_69 : decode cX9_type 69 = .ok (.iload_n 3, 1) := by decide +kernel
theorem dX9_type_70 : decode cX9_type 70 = .ok (.iconst 1, 1) := by decide +kernel
theorem dX9_type_71 : decode cX9_type 71 = .ok (.isub, 1) := by decide +kernel
theorem dX9_type_72 : decode cX9_type 72 = .ok (.istore 4, 2) := by decide +kernel
theorem dX9_type_74 : decode cX9_type 74 = .ok (.iload 4, 2) := by decide +kernel
theorem dX9_type_76 : decode cX9_type 76 = .ok (.ifCond .lt 40, 3) := by decide +kernel
theorem dX9_type_79 : decode cX9_type 79 = .ok (.aload_n 0, 1) := by decide +kernel
theorem dX9_type_80 : decode cX9_type 80 = .ok (.getfield 78, 3) := by decide +kernel
theorem dX9_type_83 : decode cX9_type 83 = .ok (.aload_n 0, 1) := by decide +kernel
theorem dX9_type_84 : decode cX9_type 84 = .ok (.getfield 246, 3) := by decide +kernel
theorem dX9_type_87 : decode cX9_type 87 = .ok (.lload_n 1, 1) := by decide +kernel
theorem dX9_type_88 : decode cX9_type 88 = .ok (.bipush 8, 2) := by decide +kernel
theorem dX9_type_90 : decode cX9_type 90 = .ok (.iload 4, 2) := by decide +kernel
theorem dX9_type_92 : decode cX9_type 92 = .ok (.imul, 1) := by decide +kernel
theorem dX9_type_93 : decode cX9_type 93 = .ok (.lshr, 1) := by decide +kernel
theorem dX9_type_94 : decode cX9_type 94 = .ok (.ldc2_w 240, 3) := by decide +kernel
theorem dX9_type_97 : decode cX9_type 97 = .ok (.land, 1) := by decide +kernel
theorem dX9_type_98 : decode cX9_type 98 = .ok (.l2i, 1) := by decide +kernel
theorem dX9_type_99 : decode cX9_type 99 = .ok (.iastore, 1) := by decide +kernel
theorem dX9_type_100 : decode cX9_type 100 = .ok (.aload_n 0, 1) := by decide +kernel
theorem dX9_type_101 : decode cX9_type 101 = .ok (.dup, 1) := by decide +kernel
theorem dX9_type_102 : decode cX9_type 102 = .ok (.getfield 246, 3) := by decide +kernel
theorem dX9_type_105 : decode cX9_type 105 = .ok (.iconst 1, 1) := by decide +kernel
theorem dX9_type_106 : decode cX9_type 106 = .ok (.iadd, 1) := by decide +kernel
theorem dX9_type_107 : decode cX9_type 107 = .ok (.putfield 246, 3) := by decide +kernel
theorem dX9_type_110 : decode cX9_type 110 = .ok (.iinc 4 (-1), 3) := by decide +kernel
theorem dX9_type_113 : decode cX9_type 113 = .ok (.goto (-39), 3) := by decide +kernel
theorem dX9_type_116 : decode cX9_type 116 = .ok (.aload_n 0, 1) := by decide +kernel
theorem dX9_type_117 : decode cX9_type 117 = .ok (.getfield 246, 3) := by decide +kernel
theorem dX9_type_120 : decode cX9_type 120 = .ok (.ireturn, 1) := by decide +kernel
theorem dX9_next_0 : decode cX9_next 0 = .ok (.aload_n 0, 1) := by decide +kernel
theorem dX9_next_1 : decode cX9_next 1 = .ok (.getfield 249, 3) := by decide +kernel
theorem dX9_next_4 : decode cX9_next 4 = .ok (.aload_n 0, 1) := by decide +kernel
theorem dX9_next_5 : decode cX9_next 5 = .ok (.getfield 246, 3) := by decide +kernel
theorem dX9_next_8 : decode cX9_next 8 = .ok (.if_icmp .ge 30, 3) := by decide +kernel
theorem dX9_next_11 : decode cX9_next 11 = .ok (.aload_n 0, 1) := by decide +kernel
theorem dX9_next_12 : decode cX9_next 12 = .ok (.getfield 78, 3) := by decide +kernel
theorem dX9_next_15 : decode cX9_next 15 = .ok (.aload_n 0, 1) := by decide +kernel
theorem dX9_next_16 : decode cX9_next 16 = .ok (.getfield 249, 3) := by decide +kernel
theorem dX9_next_19 : decode cX9_next 19 = .ok (.iaload, 1) := by decide +kernel
theorem dX9_next_20 : decode cX9_next 20 = .ok (.bipush 32, 2) := by decide +kernel
theorem dX9_next_22 : decode cX9_next 22 = .ok (.if_icmp .ne 16, 3) := by decide +kernel
theorem dX9_next_25 : decode cX9_next 25 = .ok (.aload_n 0, 1) := by decide +kernel
theorem dX9_next_26 : decode cX9_next 26 = .ok (.dup, 1) := by decide +kernel
theorem dX9_next_27 : decode cX9_next 27 = .ok (.getfield 249, 3) := by decide +kernel
theorem dX9_next_30 : decode cX9_next 30 = .ok (.iconst 1, 1) := by decide +kernel
theorem dX9_next_31 : decode cX9_next 31 = .ok (.iadd, 1) := by decide +kernel
theorem dX9_next_32 : decode cX9_next 32 = .ok (.putfield 249, 3) := by decide +kernel
theorem dX9_next_35 : decode cX9_next 35 = .ok (.goto (-35), 3) := by decide +kernel
theorem dX9_next_38 : decode cX9_next 38 = .ok (.aload_n 0, 1) := by decide +kernel
theorem dX9_next_39 : decode cX9_next 39 = .ok (.getfield 249, 3) := by decide +kernel
theorem dX9_next_42 : decode cX9_next 42 = .ok (.aload_n 0, 1) := by decide +kernel
theorem dX9_next_43 : decode cX9_next 43 = .ok (.getfield 246, 3) := by decide +kernel
theorem dX9_next_46 : decode cX9_next 46 = .ok (.if_icmp .ge 15, 3) := by decide +kernel
theorem dX9_next_49 : decode cX9_next 49 = .ok (.aload_n 0, 1) := by decide +kernel
theorem dX9_next_50 : decode cX9_next 50 = .ok (.getfield 78, 3) := by decide +kernel
theorem dX9_next_53 : decode cX9_next 53 = .ok (.aload_n 0, 1) := by decide +kernel
theorem dX9_next_54 : decode cX9_next 54 = .ok (.getfield 249, 3) := by decide +kernel
theorem dX9_next_57 : decode cX9_next 57 = .ok (.iaload, 1) := by decide +kernel
theorem dX9_next_58 : decode cX9_next 58 = .ok (.goto 4, 3) := by decide +kernel
theorem dX9_next_61 : decode cX9_next 61 = .ok (.iconst (-1), 1) := by decide +kernel
theorem dX9_next_62 : decode cX9_next 62 = .ok (.ireturn, 1) := by decide +kernel
theorem dX9_number_0 : decode cX9_number 0 = .ok (.aload_n 0, 1) := by decide +kernel
theorem dX9_number_1 : decode cX9_number 1 = .ok (.invokevirtual 252, 3) := by decide +kernel
theorem dX9_number_4 : decode cX9_number 4 = .ok (.ifCond .lt 7, 3) := by decide +kernel
theorem dX9_number_7 : decode cX9_number 7 = .ok (.iconst 1, 1) := by decide +kernel
theorem dX9_number_8 : decode cX9_number 8 = .ok (.goto 4, 3) := by decide +kernel
theorem dX9_number_11 : decode cX9_number 11 = .ok (.iconst 0, 1) := by decide +kernel
theorem dX9_number_12 : decode cX9_number 12 = .ok (.istore_n 3, 1) := by decide +kernel
theorem dX9_number_13 : decode cX9_number 13 = .ok (.aload_n 0, 1) := by decide +kernel
theorem dX9_number_14 : decode cX9_number 14 = .ok (.getfield 249, 3) := by decide +kernel
theorem dX9_number_17 : decode cX9_number 17 = .ok (.istore 4, 2) := by decide +kernel
theorem dX9_number_19 : decode cX9_number 19 = .ok (.iconst 0, 1) := by decide +kernel
theorem dX9_number_20 : decode cX9_number 20 = .ok (.istore 5, 2) := by decide +kernel
theorem dX9_number_22 : decode cX9_number 22 = .ok (.iconst 0, 1) := by decide +kernel
theorem dX9_number_23 : decode cX9_number 23 = .ok (.istore 6, 2) := by decide +kernel
theorem dX9_number_25 : decode cX9_number 25 = .ok (.aload_n 0, 1) := by decide +kernel
theorem dX9_number_26 : decode cX9_number 26 = .ok (.getfield 249, 3) := by decide +kernel
theorem dX9_number_29 : decode cX9_number 29 = .ok (.aload_n 0, 1) := by decide +kernel
theorem dX9_number_30 : decode cX9_number 30 = .ok (.getfield 246, 3) := by decide +kernel
theorem dX9_number_33 : decode cX9_number 33 = .ok (.if_icmp .ge 72, 3) := by decide +kernel
theorem dX9_number_36 : decode cX9_number 36 = .ok (.aload_n 0, 1) := by decide +kernel
theorem dX9_number_37 : decode cX9_number 37 = .ok (.getfield 78, 3) := by decide +kernel
theorem dX9_number_40 : decode cX9_number 40 = .ok (.aload_n 0, 1) := by decide +kernel
theorem dX9_number_41 : decode cX9_number 41 = .ok (.getfield 249, 3) := by decide +kernel
theorem dX9_number_44 : decode cX9_number 44 = .ok (.iaload, 1) := by decide +kernel
theorem dX9_number_45 : decode cX9_number 45 = .ok (.i2l, 1) := by decide +kernel
theorem dX9_number_46 : decode cX9_number 46 = .ok (.ldc2_w 256, 3) := by decide +kernel
theorem dX9_number_49 : decode cX9_number 49 = .ok (.ldc2_w 258, 3) := by decide +kernel
theorem dX9_number_52 : decode cX9_number 52 = .ok (.invokestatic 89, 3) := by decide +kernel
theorem dX9_number_55 : decode cX9_number 55 = .ok (.ifCond .eq 50, 3) := by decide +kernel
theorem dX9_number_58 : decode cX9_number 58 = .ok (.iload 6, 2) := by decide +kernel
theorem dX9_number_60 : decode cX9_number 60 = .ok (.iconst 5, 1) := by decide +kernel
theorem dX9_number_61 : decode cX9_number 61 = .ok (.if_icmp .ge 24, 3) := by decide +kernel
theorem dX9_number_64 : decode cX9_number 64 = .ok (.bipush 10, 2) := by decide +kernel
theorem dX9_number_66 : decode cX9_number 66 = .ok (.iload 5, 2) := by decide +kernel
theorem dX9_number_68 : decode cX9_number 68 = .ok (.imul, 1) := by decide +kernel
theorem dX9_number_69 : decode cX9_number 69 = .ok (.aload_n 0, 1) := by decide +kernel
theorem dX9_number_70 : decode cX9_number 70 = .ok (.getfield 78, 3) := by decide +kernel
theorem dX9_number_73 : decode cX9_number 73 = .ok (.aload_n 0, 1) := by decide +kernel
theorem dX9_number_74 : decode cX9_number 74 = .ok (.getfield 249, 3) := by decide +kernel
theorem dX9_number_77 : decode cX9_number 77 = .ok (.iaload, 1) := by decide +kernel
theorem dX9_number_78 : decode cX9_number 78 = .ok (.iadd, 1) := by decide +kernel
theorem dX9_number_79 : decode cX9_number 79 = .ok (.bipush 48, 2) := by decide +kernel
theorem dX9_number_81 : decode cX9_number 81 = .ok (.isub, 1) := by decide +kernel
theorem dX9_number_82 : decode cX9_number 82 = .ok (.goto 5, 3) := by decide +kernel
theorem dX9_number_85 : decode cX9_number 85 = .ok (.iload 5, 2) := by decide +kernel
theorem dX9_number_87 : decode cX9_number 87 = .ok (.istore 5, 2) := by decide +kernel
theorem dX9_number_89 : decode cX9_number 89 = .ok (.iinc 6 1, 3) := by decide +kernel
theorem dX9_number_92 : decode cX9_number 92 = .ok (.aload_n 0, 1) := by decide +kernel
theorem dX9_number_93 : decode cX9_number 93 = .ok (.dup, 1) := by decide +kernel
theorem dX9_number_94 : decode cX9_number 94 = .ok (.getfield 249, 3) := by decide +kernel
theorem dX9_number_97 : decode cX9_number 97 = .ok (.iconst 1, 1) := by decide +kernel
theorem dX9_number_98 : decode cX9_number 98 = .ok (.iadd, 1) := by decide +kernel
theorem dX9_number_99 : decode cX9_number 99 = .ok (.putfield 249, 3) := by decide +kernel
theorem dX9_number_102 : decode cX9_number 102 = .ok (.goto (-77), 3) := by decide +kernel
theorem dX9_number_105 : decode cX9_number 105 = .ok (.aload_n 0, 1) := by decide +kernel
theorem dX9_number_106 : decode cX9_number 106 = .ok (.aload_n 0, 1) := by decide +kernel
theorem dX9_number_107 : decode cX9_number 107 = .ok (.getfield 260, 3) := by decide +kernel
theorem dX9_number_110 : decode cX9_number 110 = .ok (.ifCond .ge 36, 3) := by decide +kernel
theorem dX9_number_113 : decode cX9_number 113 = .ok (.iload_n 3, 1) := by decide +kernel
theorem dX9_number_114 : decode cX9_number 114 = .ok (.ifCond .eq 27, 3) := by decide +kernel
theorem dX9_number_117 : decode cX9_number 117 = .ok (.iload 6, 2) := by decide +kernel
theorem dX9_number_119 : decode cX9_number 119 = .ok (.ifCond .eq 22, 3) := by decide +kernel
theorem dX9_number_122 : decode cX9_number 122 = .ok (.iload 6, 2) := by decide +kernel
theorem dX9_number_124 : decode cX9_number 124 = .ok (.iconst 4, 1) := by decide +kernel
theorem dX9_number_125 : decode cX9_number 125 = .ok (.if_icmp .gt 16, 3) := by decide +kernel
theorem dX9_number_128 : decode cX9_number 128 = .ok (.iload 5, 2) := by decide +kernel
theorem dX9_number_130 : decode cX9_number 130 = .ok (.i2l, 1) := by decide +kernel
theorem dX9_number_131 : decode cX9_number 131 = .ok (.iload_n 1, 1) := by decide +kernel
theorem dX9_number_132 : decode cX9_number 132 = .ok (.i2l, 1) := by decide +kernel
theorem dX9_number_133 : decode cX9_number 133 = .ok (.iload_n 2, 1) := by decide +kernel
theorem dX9_number_134 : decode cX9_number 134 = .ok (.i2l, 1) := by decide +kernel
theorem dX9_number_135 : decode cX9_number 135 = .ok (.invokestatic 89, 3) := by decide +kernel
theorem dX9_number_138 : decode cX9_number 138 = .ok (.ifCond .ne 8, 3) := by decide +kernel
theorem dX9_number_141 : decode cX9_number 141 = .ok (.iload 4, 2) := by decide +kernel
theorem dX9_number_143 : decode cX9_number 143 = .ok (.goto 7, 3) := by decide +kernel
theorem dX9_number_146 : decode cX9_number 146 = .ok (.aload_n 0, 1) := by decide +kernel
theorem dX9_number_147 : decode cX9_number 147 = .ok (.getfield 260, 3) := by decide +kernel
theorem dX9_number_150 : decode cX9_number 150 = .ok (.putfield 260, 3) := by decide +kernel
theorem dX9_number_153 : decode cX9_number 153 = .ok (.iload 5, 2) := by decide +kernel
theorem dX9_number_155 : decode cX9_number 155 = .ok (.ireturn, 1) := by decide +kernel
theorem dX9_readStep_0 : decode cX9_readStep 0 = .ok (.aload_n 0, 1) := by decide +kernel
theorem dX9_readStep_1 : decode cX9_readStep 1 = .ok (.invokevirtual 252, 3) := by decide +kernel
theorem dX9_readStep_4 : decode cX9_readStep 4 = .ok (.istore_n 1, 1) := by decide +kernel
theorem dX9_readStep_5 : decode cX9_readStep 5 = .ok (.aload_n 0, 1) := by decide +kernel
theorem dX9_readStep_6 : decode cX9_readStep 6 = .ok (.getfield 81, 3) := by decide +kernel
theorem dX9_readStep_9 : decode cX9_readStep 9 = .ok (.aload_n 0, 1) := by decide +kernel
theorem dX9_readStep_10 : decode cX9_readStep 10 = .ok (.getfield 263, 3) := by decide +kernel
theorem dX9_readStep_13 : decode cX9_readStep 13 = .ok (.iload_n 1, 1) := by decide +kernel
theorem dX9_readStep_14 : decode cX9_readStep 14 = .ok (.iastore, 1) := by decide +kernel
theorem dX9_readStep_15 : decode cX9_readStep 15 = .ok (.iload_n 1, 1) := by decide +kernel
theorem dX9_readStep_16 : decode cX9_readStep 16 = .ok (.bipush 70, 2) := by decide +kernel
theorem dX9_readStep_18 : decode cX9_readStep 18 = .ok (.if_icmp .eq 24, 3) := by decide +kernel
theorem dX9_readStep_21 : decode cX9_readStep 21 = .ok (.iload_n 1, 1) := by decide +kernel
theorem dX9_readStep_22 : decode cX9_readStep 22 = .ok (.bipush 71, 2) := by decide +kernel
theorem dX9_readStep_24 : decode cX9_readStep 24 = .ok (.if_icmp .eq 18, 3) := by decide +kernel
theorem dX9_readStep_27 : decode cX9_readStep 27 = .ok (.iload_n 1, 1) := by decide +kernel
theorem dX9_readStep_28 : decode cX9_readStep 28 = .ok (.bipush 82, 2) := by decide +kernel
theorem dX9_readStep_30 : decode cX9_readStep 30 = .ok (.if_icmp .eq 12, 3) := by decide +kernel
theorem dX9_readStep_33 : decode cX9_readStep 33 = .ok (.aload_n 0, 1) := by decide +kernel
theorem dX9_readStep_34 : decode cX9_readStep 34 = .ok (.aload_n 0, 1) := by decide +kernel
theorem dX9_readStep_35 : decode cX9_readStep 35 = .ok (.getfield 249, 3) := by decide +kernel
theorem dX9_readStep_38 : decode cX9_readStep 38 = .ok (.putfield 260, 3) := by decide +kernel
theorem dX9_readStep_41 : decode cX9_readStep 41 = .ok (.return_, 1) := by decide +kernel
theorem dX9_readStep_42 : decode cX9_readStep 42 = .ok (.aload_n 0, 1) := by decide +kernel
theorem dX9_readStep_43 : decode cX9_readStep 43 = .ok (.dup, 1) := by decide +kernel
theorem dX9_readStep_44 : decode cX9_readStep 44 = .ok (.getfield 249, 3) := by decide +kernel
theorem dX9_readStep_47 : decode cX9_readStep 47 = .ok (.iconst 1, 1) := by decide +kernel
theorem dX9_readStep_48 : decode cX9_readStep 48 = .ok (.iadd, 1) := by decide +kernel
theorem dX9_readStep_49 : decode cX9_readStep 49 = .ok (.putfield 249, 3) := by decide +kernel
theorem dX9_readStep_52 : decode cX9_readStep 52 = .ok (.iload_n 1, 1) := by decide +kernel
theorem dX9_readStep_53 : decode cX9_readStep 53 = .ok (.bipush 70, 2) := by decide +kernel
theorem dX9_readStep_55 : decode cX9_readStep 55 = .ok (.if_icmp .eq 32, 3) := by decide +kernel
theorem dX9_readStep_58 : decode cX9_readStep 58 = .ok (.aload_n 0, 1) := by decide +kernel
theorem dX9_readStep_59 : decode cX9_readStep 59 = .ok (.getfield 84, 3) := by decide +kernel
theorem dX9_readStep_62 : decode cX9_readStep 62 = .ok (.iconst 3, 1) := by decide +kernel
theorem dX9_readStep_63 : decode cX9_readStep 63 = .ok (.aload_n 0, 1) := by decide +kernel
theorem dX9_readStep_64 : decode cX9_readStep 64 = .ok (.getfield 263, 3) := by decide +kernel
theorem dX9_readStep_67 : decode cX9_readStep 67 = .ok (.imul, 1) := by decide +kernel
theorem dX9_readStep_68 : decode cX9_readStep 68 = .ok (.aload_n 0, 1) := by decide +kernel
theorem dX9_readStep_69 : decode cX9_readStep 69 = .ok (.iconst 0, 1) := by decide +kernel
theorem dX9_readStep_70 : decode cX9_readStep 70 = .ok (.iload_n 1, 1) := by decide +kernel
theorem dX9_readStep_71 : decode cX9_readStep 71 = .ok (.bipush 71, 2) := by decide +kernel
theorem dX9_readStep_73 : decode cX9_readStep 73 = .ok (.if_icmp .ne 8, 3) := by decide +kernel
theorem dX9_readStep_76 : decode cX9_readStep 76 = .ok (.bipush 100, 2) := by decide +kernel
theorem dX9_readStep_78 : decode cX9_readStep 78 = .ok (.goto 5, 3) := by decide +kernel
theorem dX9_readStep_81 : decode cX9_readStep 81 = .ok (.bipush 50, 2) := by decide +kernel
theorem dX9_readStep_83 : decode cX9_readStep 83 = .ok (.invokevirtual 266, 3) := by decide +kernel
theorem dX9_readStep_86 : decode cX9_readStep 86 = .ok (.iastore, 1) := by decide +kernel
theorem dX9_readStep_87 : decode cX9_readStep 87 = .ok (.iload_n 1, 1) := by decide +kernel
theorem dX9_readStep_88 : decode cX9_readStep 88 = .ok (.bipush 70, 2) := by decide +kernel
theorem dX9_readStep_90 : decode cX9_readStep 90 = .ok (.if_icmp .eq 46, 3) := by decide +kernel
theorem dX9_readStep_93 : decode cX9_readStep 93 = .ok (.aload_n 0, 1) := by decide +kernel
theorem dX9_readStep_94 : decode cX9_readStep 94 = .ok (.getfield 260, 3) := by decide +kernel
theorem dX9_readStep_97 : decode cX9_readStep 97 = .ok (.ifCond .ge 39, 3) := by decide +kernel
theorem dX9_readStep_100 : decode cX9_readStep 100 = .ok (.aload_n 0, 1) := by decide +kernel
theorem dX9_readStep_101 : decode cX9_readStep 101 = .ok (.getfield 84, 3) := by decide +kernel
theorem dX9_readStep_104 : decode cX9_readStep 104 = .ok (.iconst 3, 1) := by decide +kernel
theorem dX9_readStep_105 : decode cX9_readStep 105 = .ok (.aload_n 0, 1) := by decide +kernel
theorem dX9_readStep_106 : decode cX9_readStep 106 = .ok (.getfield 263, 3) := by decide +kernel
theorem dX9_readStep_109 : decode cX9_readStep 109 = .ok (.imul, 1) := by decide +kernel
theorem dX9_readStep_110 : decode cX9_readStep 110 = .ok (.iconst 1, 1) := by decide +kernel
theorem dX9_readStep_111 : decode cX9_readStep 111 = .ok (.iadd, 1) := by decide +kernel
theorem dX9_readStep_112 : decode cX9_readStep 112 = .ok (.iload_n 1, 1) := by decide +kernel
theorem dX9_readStep_113 : decode cX9_readStep 113 = .ok (.bipush 71, 2) := by decide +kernel
theorem dX9_readStep_115 : decode cX9_readStep 115 = .ok (.if_icmp .ne 13, 3) := by decide +kernel
theorem dX9_readStep_118 : decode cX9_readStep 118 = .ok (.aload_n 0, 1) := by decide +kernel
theorem dX9_readStep_119 : decode cX9_readStep 119 = .ok (.iconst 1, 1) := by decide +kernel
theorem dX9_readStep_120 : decode cX9_readStep 120 = .ok (.bipush 100, 2) := by decide +kernel
theorem dX9_readStep_122 : decode cX9_readStep 122 = .ok (.invokevirtual 266, 3) := by decide +kernel
theorem dX9_readStep_125 : decode cX9_readStep 125 = .ok (.goto 10, 3) := by decide +kernel
theorem dX9_readStep_128 : decode cX9_readStep 128 = .ok (.aload_n 0, 1) := by decide +kernel
theorem dX9_readStep_129 : decode cX9_readStep 129 = .ok (.iconst 3, 1) := by decide +kernel
theorem dX9_readStep_130 : decode cX9_readStep 130 = .ok (.bipush 40, 2) := by decide +kernel
theorem dX9_readStep_132 : decode cX9_readStep 132 = .ok (.invokevirtual 266, 3) := by decide +kernel
theorem dX9_readStep_135 : decode cX9_readStep 135 = .ok (.iastore, 1) := by decide +kernel
theorem dX9_readStep_136 : decode cX9_readStep 136 = .ok (.iload_n 1, 1) := by decide +kernel
theorem dX9_readStep_137 : decode cX9_readStep 137 = .ok (.bipush 71, 2) := by decide +kernel
theorem dX9_readStep_139 : decode cX9_readStep 139 = .ok (.if_icmp .ne 30, 3) := by decide +kernel
theorem dX9_readStep_142 : decode cX9_readStep 142 = .ok (.aload_n 0, 1) := by decide +kernel
theorem dX9_readStep_143 : decode cX9_readStep 143 = .ok (.getfield 260, 3) := by decide +kernel
theorem dX9_readStep_146 : decode cX9_readStep 146 = .ok (.ifCond .ge 23, 3) := by decide +kernel
theorem dX9_readStep_149 : decode cX9_readStep 149 = .ok (.aload_n 0, 1) := by decide +kernel
theorem dX9_readStep_150 : decode cX9_readStep 150 = .ok (.getfield 84, 3) := by decide +kernel
theorem dX9_readStep_153 : decode cX9_readStep 153 = .ok (.iconst 3, 1) := by decide +kernel
theorem dX9_readStep_154 : decode cX9_readStep 154 = .ok (.aload_n 0, 1) := by decide +kernel
theorem dX9_readStep_155 : decode cX9_readStep 155 = .ok (.getfield 263, 3) := by decide +kernel
theorem dX9_readStep_158 : decode cX9_readStep 158 = .ok (.imul, 1) := by decide +kernel
theorem dX9_readStep_159 : decode cX9_readStep 159 = .ok (.iconst 2, 1) := by decide +kernel
theorem dX9_readStep_160 : decode cX9_readStep 160 = .ok (.iadd, 1) := by decide +kernel
theorem dX9_readStep_161 : decode cX9_readStep 161 = .ok (.aload_n 0, 1) := by decide +kernel
theorem dX9_readStep_162 : decode cX9_readStep 162 = .ok (.iconst 1, 1) := by decide +kernel
theorem dX9_readStep_163 : decode cX9_readStep 163 = .ok (.bipush 20, 2) := by decide +kernel
theorem dX9_readStep_165 : decode cX9_readStep 165 = .ok (.invokevirtual 266, 3) := by decide +kernel
theorem dX9_readStep_168 : decode cX9_readStep 168 = .ok (.iastore, 1) := by decide +kernel
theorem dX9_readStep_169 : decode cX9_readStep 169 = .ok (.aload_n 0, 1) := by decide +kernel
theorem dX9_readStep_170 : decode cX9_readStep 170 = .ok (.dup, 1) := by decide +kernel
theorem dX9_readStep_171 : decode cX9_readStep 171 = .ok (.getfield 263, 3) := by decide +kernel
theorem dX9_readStep_174 : decode cX9_readStep 174 = .ok (.iconst 1, 1) := by decide +kernel
theorem dX9_readStep_175 : decode cX9_readStep 175 = .ok (.iadd, 1) := by decide +kernel
theorem dX9_readStep_176 : decode cX9_readStep 176 = .ok (.putfield 263, 3) := by decide +kernel
theorem dX9_readStep_179 : decode cX9_readStep 179 = .ok (.return_, 1) := by decide +kernel
theorem dX9_readJob_0 : decode cX9_readJob 0 = .ok (.aload_n 0, 1) := by decide +kernel
theorem dX9_readJob_1 : decode cX9_readJob 1 = .ok (.iconst 0, 1) := by decide +kernel
theorem dX9_readJob_2 : decode cX9_readJob 2 = .ok (.putfield 249, 3) := by decide +kernel
theorem dX9_readJob_5 : decode cX9_readJob 5 = .ok (.aload_n 0, 1) := by decide +kernel
theorem dX9_readJob_6 : decode cX9_readJob 6 = .ok (.iconst (-1), 1) := by decide +kernel
theorem dX9_readJob_7 : decode cX9_readJob 7 = .ok (.putfield 260, 3) := by decide +kernel
theorem dX9_readJob_10 : decode cX9_readJob 10 = .ok (.aload_n 0, 1) := by decide +kernel
theorem dX9_readJob_11 : decode cX9_readJob 11 = .ok (.iconst 0, 1) := by decide +kernel
theorem dX9_readJob_12 : decode cX9_readJob 12 = .ok (.putfield 263, 3) := by decide +kernel
theorem dX9_readJob_15 : decode cX9_readJob 15 = .ok (.iconst 1, 1) := by decide +kernel
theorem dX9_readJob_16 : decode cX9_readJob 16 = .ok (.istore_n 1, 1) := by decide +kernel
theorem dX9_readJob_17 : decode cX9_readJob 17 = .ok (.iload_n 1, 1) := by decide +kernel
theorem dX9_readJob_18 : decode cX9_readJob 18 = .ok (.ifCond .eq 81, 3) := by decide +kernel
theorem dX9_readJob_21 : decode cX9_readJob 21 = .ok (.aload_n 0, 1) := by decide +kernel
theorem dX9_readJob_22 : decode cX9_readJob 22 = .ok (.getfield 260, 3) := by decide +kernel
theorem dX9_readJob_25 : decode cX9_readJob 25 = .ok (.ifCond .ge 74, 3) := by decide +kernel
theorem dX9_readJob_28 : decode cX9_readJob 28 = .ok (.aload_n 0, 1) := by decide +kernel
theorem dX9_readJob_29 : decode cX9_readJob 29 = .ok (.invokevirtual 269, 3) := by decide +kernel
theorem dX9_readJob_32 : decode cX9_readJob 32 = .ok (.aload_n 0, 1) := by decide +kernel
theorem dX9_readJob_33 : decode cX9_readJob 33 = .ok (.getfield 260, 3) := by decide +kernel
theorem dX9_readJob_36 : decode cX9_readJob 36 = .ok (.ifCond .ge (-19), 3) := by decide +kernel
theorem dX9_readJob_39 : decode cX9_readJob 39 = .ok (.aload_n 0, 1) := by decide +kernel
theorem dX9_readJob_40 : decode cX9_readJob 40 = .ok (.invokevirtual 252, 3) := by decide +kernel
theorem dX9_readJob_43 : decode cX9_readJob 43 = .ok (.istore_n 2, 1) := by decide +kernel
theorem dX9_readJob_44 : decode cX9_readJob 44 = .ok (.iload_n 2, 1) := by decide +kernel
theorem dX9_readJob_45 : decode cX9_readJob 45 = .ok (.bipush 59, 2) := by decide +kernel
theorem dX9_readJob_47 : decode cX9_readJob 47 = .ok (.if_icmp .ne 7, 3) := by decide +kernel
theorem dX9_readJob_50 : decode cX9_readJob 50 = .ok (.iconst 1, 1) := by decide +kernel
theorem dX9_readJob_51 : decode cX9_readJob 51 = .ok (.goto 4, 3) := by decide +kernel
theorem dX9_readJob_54 : decode cX9_readJob 54 = .ok (.iconst 0, 1) := by decide +kernel
theorem dX9_readJob_55 : decode cX9_readJob 55 = .ok (.istore_n 1, 1) := by decide +kernel
theorem dX9_readJob_56 : decode cX9_readJob 56 = .ok (.aload_n 0, 1) := by decide +kernel
theorem dX9_readJob_57 : decode cX9_readJob 57 = .ok (.iload_n 2, 1) := by decide +kernel
theorem dX9_readJob_58 : decode cX9_readJob 58 = .ok (.bipush 59, 2) := by decide +kernel
theorem dX9_readJob_60 : decode cX9_readJob 60 = .ok (.if_icmp .eq 7, 3) := by decide +kernel
theorem dX9_readJob_63 : decode cX9_readJob 63 = .ok (.iload_n 2, 1) := by decide +kernel
theorem dX9_readJob_64 : decode cX9_readJob 64 = .ok (.ifCond .ge 7, 3) := by decide +kernel
theorem dX9_readJob_67 : decode cX9_readJob 67 = .ok (.iconst (-1), 1) := by decide +kernel
theorem dX9_readJob_68 : decode cX9_readJob 68 = .ok (.goto 7, 3) := by decide +kernel
theorem dX9_readJob_71 : decode cX9_readJob 71 = .ok (.aload_n 0, 1) := by decide +kernel
theorem dX9_readJob_72 : decode cX9_readJob 72 = .ok (.getfield 249, 3) := by decide +kernel
theorem dX9_readJob_75 : decode cX9_readJob 75 = .ok (.putfield 260, 3) := by decide +kernel
theorem dX9_readJob_78 : decode cX9_readJob 78 = .ok (.aload_n 0, 1) := by decide +kernel
theorem dX9_readJob_79 : decode cX9_readJob 79 = .ok (.dup, 1) := by decide +kernel
theorem dX9_readJob_80 : decode cX9_readJob 80 = .ok (.getfield 249, 3) := by decide +kernel
theorem dX9_readJob_83 : decode cX9_readJob 83 = .ok (.iload_n 1, 1) := by decide +kernel
theorem dX9_readJob_84 : decode cX9_readJob 84 = .ok (.ifCond .eq 7, 3) := by decide +kernel
theorem dX9_readJob_87 : decode cX9_readJob 87 = .ok (.iconst 1, 1) := by decide +kernel
theorem dX9_readJob_88 : decode cX9_readJob 88 = .ok (.goto 4, 3) := by decide +kernel
theorem dX9_readJob_91 : decode cX9_readJob 91 = .ok (.iconst 0, 1) := by decide +kernel
theorem dX9_readJob_92 : decode cX9_readJob 92 = .ok (.iadd, 1) := by decide +kernel
theorem dX9_readJob_93 : decode cX9_readJob 93 = .ok (.putfield 249, 3) := by decide +kernel
theorem dX9_readJob_96 : decode cX9_readJob 96 = .ok (.goto (-79), 3) := by decide +kernel
theorem dX9_readJob_99 : decode cX9_readJob 99 = .ok (.return_, 1) := by decide +kernel
theorem dX9_job_0 : decode cX9_job 0 = .ok (.iload_n 1, 1) := by decide +kernel
theorem dX9_job_1 : decode cX9_job 1 = .ok (.invokestatic 116, 3) := by decide +kernel
theorem dX9_job_4 : decode cX9_job 4 = .ok (.ifCond .ne 5, 3) := by decide +kernel
theorem dX9_job_7 : decode cX9_job 7 = .ok (.iconst (-1), 1) := by decide +kernel
theorem dX9_job_8 : decode cX9_job 8 = .ok (.ireturn, 1) := by decide +kernel
theorem dX9_job_9 : decode cX9_job 9 = .ok (.aload_n 0, 1) := by decide +kernel
theorem dX9_job_10 : decode cX9_job 10 = .ok (.invokevirtual 272, 3) := by decide +kernel
theorem dX9_job_13 : decode cX9_job 13 = .ok (.aload_n 0, 1) := by decide +kernel
theorem dX9_job_14 : decode cX9_job 14 = .ok (.iconst 0, 1) := by decide +kernel
theorem dX9_job_15 : decode cX9_job 15 = .ok (.putfield 246, 3) := by decide +kernel
theorem dX9_job_18 : decode cX9_job 18 = .ok (.aload_n 0, 1) := by decide +kernel
theorem dX9_job_19 : decode cX9_job 19 = .ok (.getfield 260, 3) := by decide +kernel
theorem dX9_job_22 : decode cX9_job 22 = .ok (.ifCond .lt 11, 3) := by decide +kernel
theorem dX9_job_25 : decode cX9_job 25 = .ok (.bipush (-20), 2) := by decide +kernel
theorem dX9_job_27 : decode cX9_job 27 = .ok (.aload_n 0, 1) := by decide +kernel
theorem dX9_job_28 : decode cX9_job 28 = .ok (.getfield 260, 3) := by decide +kernel
theorem dX9_job_31 : decode cX9_job 31 = .ok (.isub, 1) := by decide +kernel
theorem dX9_job_32 : decode cX9_job 32 = .ok (.ireturn, 1) := by decide +kernel
theorem dX9_job_33 : decode cX9_job 33 = .ok (.iconst 0, 1) := by decide +kernel
theorem dX9_job_34 : decode cX9_job 34 = .ok (.istore_n 2, 1) := by decide +kernel
theorem dX9_job_35 : decode cX9_job 35 = .ok (.iconst 1, 1) := by decide +kernel
theorem dX9_job_36 : decode cX9_job 36 = .ok (.istore_n 3, 1) := by decide +kernel
theorem dX9_job_37 : decode cX9_job 37 = .ok (.iload_n 3, 1) := by decide +kernel
theorem dX9_job_38 : decode cX9_job 38 = .ok (.ifCond .eq 128, 3) := by decide +kernel
theorem dX9_job_41 : decode cX9_job 41 = .ok (.iload_n 2, 1) := by decide +kernel
theorem dX9_job_42 : decode cX9_job 42 = .ok (.aload_n 0, 1) := by decide +kernel
theorem dX9_job_43 : decode cX9_job 43 = .ok (.getfield 263, 3) := by decide +kernel
theorem dX9_job_46 : decode cX9_job 46 = .ok (.if_icmp .ge 120, 3) := by decide +kernel
theorem dX9_job_49 : decode cX9_job 49 = .ok (.iconst 3, 1) := by decide +kernel
theorem dX9_job_50 : decode cX9_job 50 = .ok (.iload_n 2, 1) := by decide +kernel
theorem dX9_job_51 : decode cX9_job 51 = .ok (.imul, 1) := by decide +kernel
theorem dX9_job_52 : decode cX9_job 52 = .ok (.istore 4, 2) := by decide +kernel
theorem dX9_job_54 : decode cX9_job 54 = .ok (.aload_n 0, 1) := by decide +kernel
theorem dX9_job_55 : decode cX9_job 55 = .ok (.getfield 81, 3) := by decide +kernel
theorem dX9_job_58 : decode cX9_job 58 = .ok (.iload_n 2, 1) := by decide +kernel
theorem dX9_job_59 : decode cX9_job 59 = .ok (.iaload, 1) := by decide +kernel
theorem dX9_job_60 : decode cX9_job 60 = .ok (.bipush 70, 2) := by decide +kernel
theorem dX9_job_62 : decode cX9_job 62 = .ok (.if_icmp .ne 11, 3) := by decide +kernel
theorem dX9_job_65 : decode cX9_job 65 = .ok (.aload_n 0, 1) := by decide +kernel
theorem dX9_job_66 : decode cX9_job 66 = .ok (.iload_n 1, 1) := by decide +kernel
theorem dX9_job_67 : decode cX9_job 67 = .ok (.invokevirtual 275, 3) := by decide +kernel
theorem dX9_job_70 : decode cX9_job 70 = .ok (.goto 68, 3) := by decide +kernel
theorem dX9_job_73 : decode cX9_job 73 = .ok (.aload_n 0, 1) := by decide +kernel
theorem dX9_job_74 : decode cX9_job 74 = .ok (.getfield 81, 3) := by decide +kernel
theorem dX9_job_77 : decode cX9_job 77 = .ok (.iload_n 2, 1) := by decide +kernel
theorem dX9_job_78 : decode cX9_job 78 = .ok (.iaload, 1) := by decide +kernel
theorem dX9_job_79 : decode cX9_job 79 = .ok (.bipush 71, 2) := by decide +kernel
theorem dX9_job_81 : decode cX9_job 81 = .ok (.if_icmp .ne 36, 3) := by decide +kernel
theorem dX9_job_84 : decode cX9_job 84 = .ok (.aload_n 0, 1) := by decide +kernel
theorem dX9_job_85 : decode cX9_job 85 = .ok (.iload_n 1, 1) := by decide +kernel
theorem dX9_job_86 : decode cX9_job 86 = .ok (.aload_n 0, 1) := by decide +kernel
theorem dX9_job_87 : decode cX9_job 87 = .ok (.getfield 84, 3) := by decide +kernel
theorem dX9_job_90 : decode cX9_job 90 = .ok (.iload 4, 2) := by decide +kernel
theorem dX9_job_92 : decode cX9_job 92 = .ok (.iaload, 1) := by decide +kernel
theorem dX9_job_93 : decode cX9_job 93 = .ok (.aload_n 0, 1) := by decide +kernel
theorem dX9_job_94 : decode cX9_job 94 = .ok (.getfield 84, 3) := by decide +kernel
theorem dX9_job_97 : decode cX9_job 97 = .ok (.iload 4, 2) := by decide +kernel
theorem dX9_job_99 : decode cX9_job 99 = .ok (.iconst 1, 1) := by decide +kernel
theorem dX9_job_100 : decode cX9_job 100 = .ok (.iadd, 1) := by decide +kernel
theorem dX9_job_101 : decode cX9_job 101 = .ok (.iaload, 1) := by decide +kernel
theorem dX9_job_102 : decode cX9_job 102 = .ok (.aload_n 0, 1) := by decide +kernel
theorem dX9_job_103 : decode cX9_job 103 = .ok (.getfield 84, 3) := by decide +kernel
theorem dX9_job_106 : decode cX9_job 106 = .ok (.iload 4, 2) := by decide +kernel
theorem dX9_job_108 : decode cX9_job 108 = .ok (.iconst 2, 1) := by decide +kernel
theorem dX9_job_109 : decode cX9_job 109 = .ok (.iadd, 1) := by decide +kernel
theorem dX9_job_110 : decode cX9_job 110 = .ok (.iaload, 1) := by decide +kernel
theorem dX9_job_111 : decode cX9_job 111 = .ok (.invokevirtual 278, 3) := by decide +kernel
theorem dX9_job_114 : decode cX9_job 114 = .ok (.goto 24, 3) := by decide +kernel
theorem dX9_job_117 : decode cX9_job 117 = .ok (.aload_n 0, 1) := by decide +kernel
theorem dX9_job_118 : decode cX9_job 118 = .ok (.iload_n 1, 1) := by decide +kernel
theorem dX9_job_119 : decode cX9_job 119 = .ok (.aload_n 0, 1) := by decide +kernel
theorem dX9_job_120 : decode cX9_job 120 = .ok (.getfield 84, 3) := by decide +kernel
theorem dX9_job_123 : decode cX9_job 123 = .ok (.iload 4, 2) := by decide +kernel
theorem dX9_job_125 : decode cX9_job 125 = .ok (.iaload, 1) := by decide +kernel
theorem dX9_job_126 : decode cX9_job 126 = .ok (.aload_n 0, 1) := by decide +kernel
theorem dX9_job_127 : decode cX9_job 127 = .ok (.getfield 84, 3) := by decide +kernel
theorem dX9_job_130 : decode cX9_job 130 = .ok (.iload 4, 2) := by decide +kernel
theorem dX9_job_132 : decode cX9_job 132 = .ok (.iconst 1, 1) := by decide +kernel
theorem dX9_job_133 : decode cX9_job 133 = .ok (.iadd, 1) := by decide +kernel
theorem dX9_job_134 : decode cX9_job 134 = .ok (.iaload, 1) := by decide +kernel
theorem dX9_job_135 : decode cX9_job 135 = .ok (.invokevirtual 282, 3) := by decide +kernel
theorem dX9_job_138 : decode cX9_job 138 = .ok (.istore 5, 2) := by decide +kernel
theorem dX9_job_140 : decode cX9_job 140 = .ok (.iload 5, 2) := by decide +kernel
theorem dX9_job_142 : decode cX9_job 142 = .ok (.ifCond .lt 7, 3) := by decide +kernel
theorem dX9_job_145 : decode cX9_job 145 = .ok (.iconst 1, 1) := by decide +kernel
theorem dX9_job_146 : decode cX9_job 146 = .ok (.goto 4, 3) := by decide +kernel
theorem dX9_job_149 : decode cX9_job 149 = .ok (.iconst 0, 1) := by decide +kernel
theorem dX9_job_150 : decode cX9_job 150 = .ok (.istore_n 3, 1) := by decide +kernel
theorem dX9_job_151 : decode cX9_job 151 = .ok (.iload_n 2, 1) := by decide +kernel
theorem dX9_job_152 : decode cX9_job 152 = .ok (.iload_n 3, 1) := by decide +kernel
theorem dX9_job_153 : decode cX9_job 153 = .ok (.ifCond .eq 7, 3) := by decide +kernel
theorem dX9_job_156 : decode cX9_job 156 = .ok (.iconst 1, 1) := by decide +kernel
theorem dX9_job_157 : decode cX9_job 157 = .ok (.goto 4, 3) := by decide +kernel
theorem dX9_job_160 : decode cX9_job 160 = .ok (.iconst 0, 1) := by decide +kernel
theorem dX9_job_161 : decode cX9_job 161 = .ok (.iadd, 1) := by decide +kernel
theorem dX9_job_162 : decode cX9_job 162 = .ok (.istore_n 2, 1) := by decide +kernel
theorem dX9_job_163 : decode cX9_job 163 = .ok (.goto (-126), 3) := by decide +kernel
theorem dX9_job_166 : decode cX9_job 166 = .ok (.iload_n 2, 1) := by decide +kernel
theorem dX9_job_167 : decode cX9_job 167 = .ok (.ireturn, 1) := by decide +kernel
