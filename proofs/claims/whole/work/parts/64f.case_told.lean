set_option maxHeartbeats 4000000 in
set_option maxRecDepth 20000 in
theorem law_told {p : Program} {l : Launch} {e : Env} {s : State} {m : MethodId} {below : List Frame} {meth : Method} {c : Code} {b L : Nat} {xs : Nat → Int32} {A : Nat → Prop} {Qf : State → Prop} {D : va_G} {cy : Nat → ClassId} {q : Nat → Nat} {gS gY gF : Nat → Option Nat} (hx : p.tables.exec = Jvm.exec) (hb : c.code = cL_law) (hml : c.maxLocals = 4) (hown : s.vm.findClass RL = some m.cls) (hts : ∀ w ∈ wsL_law, w.before #[Value.ref b] s = true) (hKK : py_K D cy s) (hX : va_X b L xs s s.heap) (hbl : b < s.heap.size) (hbA : ¬ A b) (hA : ∀ q : Nat, s.heap.size ≤ q → A q) (hgS : ∀ t, t < 4 → gS t = some (q (3 + 2 * t))) (hgY : ∀ t, t < 2 → gY t = some (q (11 + 10 * t))) (hgF0 : gF 0 = some (q 41)) (hgF1 : gF 1 = some (q 42)) (hgF2 : gF 2 = some (q 43)) (j : Nat) (hj : j + 6 ≤ L) (hL : L ≤ 3072) (H : Heap) (locs : List Loc) (hw : LWd D cy q gS gY gF A s H locs) (ls : Array Slot) (hl : lv_has ls 4 [(0, .ref b), (1, .ref (q 0)), (2, .ref (q 58)), (3, .int (nI j))])
    (next : ∀ (H : Heap) (locs : List Loc), LWd D cy q gS gY gF A s H locs → ∀ (ls : Array Slot), lv_has ls 4 [(0, .ref b), (1, .ref (q 0)), (2, .ref (q 58)), (3, .int (nI j))] → W p l e room_1 s m #[Value.ref b] below meth c H locs 600000 7302250 Qf (F0 m 1060 ls [])) : W p l e room_1 s m #[Value.ref b] below meth c H locs 600000 7302250 Qf (F0 m 381 ls []) := by
  obtain ⟨ce, lane, size, items, ysz, yx, yy, yz, yst, ykd, ybh, yrd, ysh, ylo, tn, tb, mla, msi, mit, mma, mpx, mpy, mpz, mst, mkd, mbh, mrd, mlo, msh, mtp, mtd, kX, kS, kY, kT, kJ, kF, kR, kL, kG, kM, hR, hP, hD, hS⟩ := hw
  have i1 := py_ix (k := 1) (y := (1 : Int32)) hj hL (by decide) (by decide)
  have i2 := py_ix (k := 2) (y := (2 : Int32)) hj hL (by decide) (by decide)
  have i3 := py_ix (k := 3) (y := (3 : Int32)) hj hL (by decide) (by decide)
  obtain ⟨k0, k1, k2⟩ := kX
  obtain ⟨msp, mmx, mri, mfo, mhi, mne, mce, mpa, mbe, mwh, mnu, mhs, mat, mfa, mss, k58, k59, k60, k61, k62, k63, k64, k65, k66, k67, k68, k69, k70, k71, k72, k73, k74, k75, k76, k77, k78, k79, k80, k81, k82, k83⟩ := kM
  have h : lw_told lane size items ysz yx yy yz yst ykd ybh yrd ysh ylo tn tb mla msi mit mma mpx mpy mpz mst mkd mbh mrd mlo msh mtp mtd (xs (j + 1)) (xs (j + 2)) (xs (j + 3)) RR := t_told hR  (xs (j + 1)) (xs (j + 2)) (xs (j + 3))
  unfold lw_told at h
  obtain ⟨w_yr, hw_w_yr, h⟩ := h
  refine lv_aload_n hx hb dL_law_381 rfl (lv_at hl 1 rfl) ?_
  refine lv_aload_n hx hb dL_law_382 rfl (lv_at hl 0 rfl) ?_
  refine lv_iload_n hx hb dL_law_383 rfl (lv_at hl 3 rfl) ?_
  refine lv_iconst (v := (1 : Int32)) hx hb dL_law_384 (by decide) ?_
  refine lv_iadd hx hb dL_law_385 ?_
  refine py_sld hx hb hX hbl hbA hS (k := j + 1) i1.1 i1.2 dL_law_386 ?_
  refine lv_aload_n hx hb dL_law_387 rfl (lv_at hl 0 rfl) ?_
  refine lv_iload_n hx hb dL_law_388 rfl (lv_at hl 3 rfl) ?_
  refine lv_iconst (v := (2 : Int32)) hx hb dL_law_389 (by decide) ?_
  refine lv_iadd hx hb dL_law_390 ?_
  refine py_sld hx hb hX hbl hbA hS (k := j + 2) i2.1 i2.2 dL_law_391 ?_
  refine lv_aload_n hx hb dL_law_392 rfl (lv_at hl 0 rfl) ?_
  refine lv_iload_n hx hb dL_law_393 rfl (lv_at hl 3 rfl) ?_
  refine lv_iconst (v := (3 : Int32)) hx hb dL_law_394 (by decide) ?_
  refine lv_iadd hx hb dL_law_395 ?_
  refine py_sld hx hb hX hbl hbA hS (k := j + 3) i3.1 i3.2 dL_law_396 ?_
  refine fw_ci (As := [.int (xs (j + 1)), .int (xs (j + 2)), .int (xs (j + 3))]) ⟨hx, hb, hml, hown, hts⟩ hKK hP [0, 2, (11 + 10 * w_yr), (18 + 10 * w_yr), (17 + 10 * w_yr), (16 + 10 * w_yr), (15 + 10 * w_yr), (14 + 10 * w_yr), (19 + 10 * w_yr), (13 + 10 * w_yr), (12 + 10 * w_yr)] ((show ∀ w_yr : Nat, w_yr < 2 → ∀ i ∈ ([0, 2, (11 + 10 * w_yr), (18 + 10 * w_yr), (17 + 10 * w_yr), (16 + 10 * w_yr), (15 + 10 * w_yr), (14 + 10 * w_yr), (19 + 10 * w_yr), (13 + 10 * w_yr), (12 + 10 * w_yr)] : List Nat), i < 84 by decide) w_yr hw_w_yr) (vs := [.inr (8, [.ref (q 1), .ref (q 2), .ref (q 31), .ref (q 33), .ref (q 38), .ref (q 46), .ref (q 51), .ref (q 54), .ref (q 56)]), .inl (cy 5, (2, .inr (.inr (.inr (.inr gY))))), .inr (7, [.ref (q (12 + 10 * w_yr)), .ref (q (13 + 10 * w_yr)), .ref (q (14 + 10 * w_yr)), .ref (q (15 + 10 * w_yr)), .ref (q (16 + 10 * w_yr)), .ref (q (17 + 10 * w_yr)), .ref (q (18 + 10 * w_yr)), .ref (q (19 + 10 * w_yr)), .ref (q (20 + 10 * w_yr)), .int (ysz w_yr)]), .inl (cy 0, (100, .inl (yrd w_yr))), .inl (cy 0, (100, .inl (ybh w_yr))), .inl (cy 0, (100, .inl (ykd w_yr))), .inl (cy 0, (100, .inl (yst w_yr))), .inl (cy 0, (100, .inl (yz w_yr))), .inl (cy 0, (4, .inl (ysh w_yr))), .inl (cy 0, (100, .inl (yy w_yr))), .inl (cy 0, (100, .inl (yx w_yr)))]) (lc k0 (lc k2 (lc (kY w_yr hw_w_yr).1 (lc (kY w_yr hw_w_yr).2.2.2.2.2.2.2.1 (lc (kY w_yr hw_w_yr).2.2.2.2.2.2.1 (lc (kY w_yr hw_w_yr).2.2.2.2.2.1 (lc (kY w_yr hw_w_yr).2.2.2.2.1 (lc (kY w_yr hw_w_yr).2.2.2.1 (lc (kY w_yr hw_w_yr).2.2.2.2.2.2.2.2.1 (lc (kY w_yr hw_w_yr).2.2.1 (lc (kY w_yr hw_w_yr).2.1 rfl))))))))))) rfl 0 8 (by decide) rfl k0 (c_X8_told l D cy (q 1) (q 2) (q 31) (q 33) (q 38) (q 46) (q 51) (q 54) (q 56) (q 0) (q (12 + 10 * w_yr)) (q (13 + 10 * w_yr)) (q (14 + 10 * w_yr)) (q (15 + 10 * w_yr)) (q (16 + 10 * w_yr)) (q (17 + 10 * w_yr)) (q (18 + 10 * w_yr)) (q (19 + 10 * w_yr)) (q (20 + 10 * w_yr)) (q (11 + 10 * w_yr)) gY w_yr (hgY w_yr hw_w_yr) (ysz w_yr) (yrd w_yr) (ybh w_yr) (ykd w_yr) (yst w_yr) (yz w_yr) (ysh w_yr) (yy w_yr) (yx w_yr) (xs (j + 1)) (xs (j + 2)) (xs (j + 3)) _ h) (cwV 3 hts gL_law_X8_told rfl rfl rfl cdv_X8_told ⟨Nat.le_of_ble_eq_true rfl, Nat.le_of_ble_eq_true rfl⟩) rfl hl.1 rfl (Nat.le_of_ble_eq_true rfl) ⟨Nat.le_refl _, Nat.le_refl _⟩ dL_law_397 (fun r_1 h => ?_)
  try dsimp only at h
  refine lv_aload_n hx hb dL_law_400 rfl (lv_at hl 2 rfl) ?_
  refine lv_aload_n hx hb dL_law_401 rfl (lv_at hl 0 rfl) ?_
  refine lv_iload_n hx hb dL_law_402 rfl (lv_at hl 3 rfl) ?_
  refine lv_iconst (v := (1 : Int32)) hx hb dL_law_403 (by decide) ?_
  refine lv_iadd hx hb dL_law_404 ?_
  refine py_sld hx hb hX hbl hbA hS (k := j + 1) i1.1 i1.2 dL_law_405 ?_
  refine lv_aload_n hx hb dL_law_406 rfl (lv_at hl 0 rfl) ?_
  refine lv_iload_n hx hb dL_law_407 rfl (lv_at hl 3 rfl) ?_
  refine lv_iconst (v := (2 : Int32)) hx hb dL_law_408 (by decide) ?_
  refine lv_iadd hx hb dL_law_409 ?_
  refine py_sld hx hb hX hbl hbA hS (k := j + 2) i2.1 i2.2 dL_law_410 ?_
  refine lv_aload_n hx hb dL_law_411 rfl (lv_at hl 0 rfl) ?_
  refine lv_iload_n hx hb dL_law_412 rfl (lv_at hl 3 rfl) ?_
  refine lv_iconst (v := (3 : Int32)) hx hb dL_law_413 (by decide) ?_
  refine lv_iadd hx hb dL_law_414 ?_
  refine py_sld hx hb hX hbl hbA hS (k := j + 3) i3.1 i3.2 dL_law_415 ?_
  refine fw_ci (As := [.int (xs (j + 1)), .int (xs (j + 2)), .int (xs (j + 3))]) ⟨hx, hb, hml, hown, hts⟩ hKK hP [58, 63, 68, 70, 69, 67, 66, 72, 65, 64] (show ∀ i ∈ ([58, 63, 68, 70, 69, 67, 66, 72, 65, 64] : List Nat), i < 84 by decide) (vs := [.inr (9, [.ref (q 59), .ref (q 60), .ref (q 61), .ref (q 62), .ref (q 63), .ref (q 64), .ref (q 65), .ref (q 66), .ref (q 67), .ref (q 68), .ref (q 69), .ref (q 70), .ref (q 71), .ref (q 72), .ref (q 73), .ref (q 74), .ref (q 75), .ref (q 76), .int mhs, .ref (q 77), .ref (q 78), .ref (q 79), .ref (q 80), .ref (q 81), .int mtd, .int mat, .int mfa, .int mss, .ref (q 82), .ref (q 83)]), .inl (cy 0, (2, .inl mma)), .inl (cy 0, (200, .inl mkd)), .inl (cy 0, (200, .inl mrd)), .inl (cy 0, (200, .inl mbh)), .inl (cy 0, (200, .inl mst)), .inl (cy 0, (200, .inl mpz)), .inl (cy 0, (8, .inl msh)), .inl (cy 0, (200, .inl mpy)), .inl (cy 0, (200, .inl mpx))]) (lc k58 (lc k63 (lc k68 (lc k70 (lc k69 (lc k67 (lc k66 (lc k72 (lc k65 (lc k64 rfl)))))))))) rfl 58 9 (by decide) rfl k58 (c_X9_told l D cy (q 59) (q 60) (q 61) (q 62) (q 63) (q 64) (q 65) (q 66) (q 67) (q 68) (q 69) (q 70) (q 71) (q 72) (q 73) (q 74) (q 75) (q 76) (q 77) (q 78) (q 79) (q 80) (q 81) (q 82) (q 83) (q 58) mhs mtd mat mfa mss mma mkd mrd mbh mst mpz msh mpy mpx (xs (j + 1)) (xs (j + 2)) (xs (j + 3)) _ h) (cwV 3 hts gL_law_X9_told rfl rfl rfl cdv_X9_told ⟨Nat.le_of_ble_eq_true rfl, Nat.le_of_ble_eq_true rfl⟩) rfl hl.1 rfl (Nat.le_of_ble_eq_true rfl) ⟨Nat.le_refl _, Nat.le_refl _⟩ dL_law_416 (fun r_2 h => ?_)
  try dsimp only at h
  refine lv_icmp_eq (tgt := 1060) hx hb dL_law_419 (by decide) (fun c_ => ?_) (fun c_ => absurd h.1 c_)
  exact next H locs ⟨ce, _, _, _, _, _, _, _, _, _, _, _, _, _, _, _, _, _, _, _, _, _, _, _, _, _, _, _, _, _, _, ⟨k0, k1, k2⟩, kS, kY, kT, kJ, kF, kR, kL, kG, ⟨_, _, _, _, _, _, _, _, _, _, _, _, _, _, _, k58, k59, k60, k61, k62, k63, k64, k65, k66, k67, k68, k69, k70, k71, k72, k73, k74, k75, k76, k77, k78, k79, k80, k81, k82, k83⟩, h.2, hP, hD, hS⟩ ls hl
