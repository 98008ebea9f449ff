set_option maxHeartbeats 4000000 in
set_option maxRecDepth 20000 in
theorem law_type {p : Program} {l : Launch} {e : Env} {s : State} {m : MethodId} {below : List Frame} {meth : Method} {c : Code} {b L : Nat} {xs : Nat → Int32} {A : Nat → Prop} {Qf : State → Prop} {D : va_G} {cy : Nat → ClassId} {q : Nat → Nat} {gS gY gF : Nat → Option Nat} (hx : p.tables.exec = Jvm.exec) (hb : c.code = cL_law) (hml : c.maxLocals = 4) (hown : s.vm.findClass RL = some m.cls) (hts : ∀ w ∈ wsL_law, w.before #[Value.ref b] s = true) (hKK : py_K D cy s) (hX : va_X b L xs s s.heap) (hbl : b < s.heap.size) (hbA : ¬ A b) (hA : ∀ q : Nat, s.heap.size ≤ q → A q) (hgS : ∀ t, t < 4 → gS t = some (q (3 + 2 * t))) (hgY : ∀ t, t < 2 → gY t = some (q (11 + 10 * t))) (hgF0 : gF 0 = some (q 41)) (hgF1 : gF 1 = some (q 42)) (hgF2 : gF 2 = some (q 43)) (j : Nat) (hj : j + 6 ≤ L) (hL : L ≤ 3072) (H : Heap) (locs : List Loc) (hw : LWd D cy q gS gY gF A s H locs) (ls : Array Slot) (hl : lv_has ls 4 [(0, .ref b), (1, .ref (q 0)), (2, .ref (q 58)), (3, .int (nI j))])
    (next : ∀ (H : Heap) (locs : List Loc), LWd D cy q gS gY gF A s H locs → ∀ (ls : Array Slot), lv_has ls 4 [(0, .ref b), (1, .ref (q 0)), (2, .ref (q 58)), (3, .int (nI j))] → W p l e room_1 s m #[Value.ref b] below meth c H locs 600000 7302250 Qf (F0 m 1060 ls [])) : W p l e room_1 s m #[Value.ref b] below meth c H locs 600000 7302250 Qf (F0 m 974 ls []) := by
  obtain ⟨ce, lane, size, items, ysz, yx, yy, yz, yst, ykd, ybh, yrd, ysh, ylo, tn, tb, mla, msi, mit, mma, mpx, mpy, mpz, mst, mkd, mbh, mrd, mlo, msh, mtp, mtd, kX, kS, kY, kT, kJ, kF, kR, kL, kG, kM, hR, hP, hD, hS⟩ := hw
  have i1 := py_ix (k := 1) (y := (1 : Int32)) hj hL (by decide) (by decide)
  have i2 := py_ix (k := 2) (y := (2 : Int32)) hj hL (by decide) (by decide)
  have i3 := py_ix (k := 3) (y := (3 : Int32)) hj hL (by decide) (by decide)
  obtain ⟨k0, k1, k2⟩ := kX
  obtain ⟨k31, k32⟩ := kT
  obtain ⟨msp, mmx, mri, mfo, mhi, mne, mce, mpa, mbe, mwh, mnu, mhs, mat, mfa, mss, k58, k59, k60, k61, k62, k63, k64, k65, k66, k67, k68, k69, k70, k71, k72, k73, k74, k75, k76, k77, k78, k79, k80, k81, k82, k83⟩ := kM
  have h : lw_type lane size items ysz yx yy yz yst ykd ybh yrd ysh ylo tn tb mla msi mit mma mpx mpy mpz mst mkd mbh mrd mlo msh mtp mtd (xs (j + 1)) (xs (j + 2)) (xs (j + 3)) RR := t_type hR  (xs (j + 1)) (xs (j + 2)) (xs (j + 3))
  unfold lw_type at h
  refine lv_aload_n hx hb dL_law_974 rfl (lv_at hl 1 rfl) ?_
  refine lv_aload_n hx hb dL_law_975 rfl (lv_at hl 0 rfl) ?_
  refine lv_iload_n hx hb dL_law_976 rfl (lv_at hl 3 rfl) ?_
  refine lv_iconst (v := (1 : Int32)) hx hb dL_law_977 (by decide) ?_
  refine lv_iadd hx hb dL_law_978 ?_
  refine py_sld hx hb hX hbl hbA hS (k := j + 1) i1.1 i1.2 dL_law_979 ?_
  refine lv_i2l (v := ((xs (j + 1)).toInt64)) hx hb dL_law_980 rfl ?_
  refine lv_bipush (v := (32 : Int32)) hx hb dL_law_981 (by decide) ?_
  refine lv_lshl (v := (((xs (j + 1)).toInt64) <<< ((32 : Int32).toInt64 &&& 63))) hx hb dL_law_983 rfl ?_
  refine lv_aload_n hx hb dL_law_984 rfl (lv_at hl 0 rfl) ?_
  refine lv_iload_n hx hb dL_law_985 rfl (lv_at hl 3 rfl) ?_
  refine lv_iconst (v := (2 : Int32)) hx hb dL_law_986 (by decide) ?_
  refine lv_iadd hx hb dL_law_987 ?_
  refine py_sld hx hb hX hbl hbA hS (k := j + 2) i2.1 i2.2 dL_law_988 ?_
  refine lv_i2l (v := ((xs (j + 2)).toInt64)) hx hb dL_law_989 rfl ?_
  refine lv_ldc2 (v := (4294967295 : Int64)) hx hb hown (hts (.constantLong RL 101 (4294967295)) (List.mem_of_getElem? (i := 6) rfl)) dL_law_990 ?_
  refine lv_land hx hb dL_law_993 ?_
  refine lv_lor hx hb dL_law_994 ?_
  refine lv_aload_n hx hb dL_law_995 rfl (lv_at hl 0 rfl) ?_
  refine lv_iload_n hx hb dL_law_996 rfl (lv_at hl 3 rfl) ?_
  refine lv_iconst (v := (3 : Int32)) hx hb dL_law_997 (by decide) ?_
  refine lv_iadd hx hb dL_law_998 ?_
  refine py_sld hx hb hX hbl hbA hS (k := j + 3) i3.1 i3.2 dL_law_999 ?_
  have hnM : ([31, 32] : List Nat).Nodup := show ([31, 32] : List Nat).Nodup by decide
  refine fw_wi (T := Int32 × (Nat → Int32)) (As := [.long ((((xs (j + 1)).toInt64) <<< ((32 : Int32).toInt64 &&& 63)) ||| (((xs (j + 2)).toInt64) &&& (4294967295 : Int64))), .int (xs (j + 3))]) ⟨hx, hb, hml, hown, hts⟩ hKK hP hD hS hA [0, 31, 32] (show ∀ i ∈ ([0, 31, 32] : List Nat), i < 84 by decide) (show ([0, 31, 32] : List Nat).Nodup by decide) (vs := [.inr (8, [.ref (q 1), .ref (q 2), .ref (q 31), .ref (q 33), .ref (q 38), .ref (q 46), .ref (q 51), .ref (q 54), .ref (q 56)]), .inr (6, [.ref (q 32), .int tn]), .inl (cy 2, (80, .inl tb))]) (lc k0 (lc k31 (lc k32 rfl))) rfl 0 8 (by decide) rfl k0 [31, 32] (show ∀ i ∈ ([31, 32] : List Nat), i ∈ ([0, 31, 32] : List Nat) by decide) (fun (u : Int32 × (Nat → Int32)) => [.inr (6, [.ref (q 32), .int u.1]), .inl (cy 2, (80, .inl u.2))]) (fun (u : Int32 × (Nat → Int32)) => [.inr (8, [.ref (q 1), .ref (q 2), .ref (q 31), .ref (q 33), .ref (q 38), .ref (q 46), .ref (q 51), .ref (q 54), .ref (q 56)]), .inr (6, [.ref (q 32), .int u.1]), .inl (cy 2, (80, .inl u.2))]) (fun u => (lc ((asg_out (show 0 ∉ ([31, 32] : List Nat) by decide)).trans k0) (lc (asg_at 0 hnM rfl rfl) (lc (asg_at 1 hnM rfl rfl) rfl)))) (fun _ => rfl) (c_X8_type l D cy (q 1) (q 2) (q 31) (q 33) (q 38) (q 46) (q 51) (q 54) (q 56) (q 0) (q 32) tn tb ((((xs (j + 1)).toInt64) <<< ((32 : Int32).toInt64 &&& 63)) ||| (((xs (j + 2)).toInt64) &&& (4294967295 : Int64))) (xs (j + 3)) H.size _ h) (cwV 2 hts gL_law_X8_type rfl rfl rfl cdv_X8_type ⟨Nat.le_of_ble_eq_true rfl, Nat.le_of_ble_eq_true rfl⟩) rfl hl.1 rfl (Nat.le_of_ble_eq_true rfl) ⟨Nat.le_refl _, Nat.le_refl _⟩ dL_law_1000 (fun r_1 u H locs h hP hD hS => ?_)
  obtain ⟨c_2, c_3⟩ := u
  try dsimp only at h
  obtain ⟨ce1, e1⟩ : ∃ z : Nat → va_E, z = asg [31, 32] [.inr (6, [.ref (q 32), .int c_2]), .inl (cy 2, (80, .inl c_3))] ce := ⟨_, rfl⟩
  have hP : va_P D vwCl (fw q ce1) H := by rw [e1]; exact hP
  have hD : va_D A (fw q ce1) := by rw [e1]; exact hD
  have hni : ∀ k, k ∉ ([31, 32] : List Nat) → ce1 k = ce k := fun k hk => (congrFun e1 k).trans (asg_out hk)
  have hm58 : ∀ k, 58 ≤ k → k ∉ ([31, 32] : List Nat) := by intro k hk; simp only [List.mem_cons, List.not_mem_nil, or_false]; omega
  have k0 := (hni 0 (show 0 ∉ ([31, 32] : List Nat) by decide)).trans k0
  have k1 := (hni 1 (show 1 ∉ ([31, 32] : List Nat) by decide)).trans k1
  have k2 := (hni 2 (show 2 ∉ ([31, 32] : List Nat) by decide)).trans k2
  have kS := gSh.mono (fun k h1 h2 => hni k (by simp only [List.mem_cons, List.not_mem_nil, or_false]; omega)) kS
  have kY := gYr.mono (fun k h1 h2 => hni k (by simp only [List.mem_cons, List.not_mem_nil, or_false]; omega)) kY
  have k31 := (congrFun e1 31).trans (asg_at 0 hnM rfl rfl)
  have k32 := (congrFun e1 32).trans (asg_at 1 hnM rfl rfl)
  have kJ := gJt.mono (fun k h1 h2 => hni k (by simp only [List.mem_cons, List.not_mem_nil, or_false]; omega)) kJ
  have kF := gFi.mono (fun k h1 h2 => hni k (by simp only [List.mem_cons, List.not_mem_nil, or_false]; omega)) kF
  have kR := gRo.mono (fun k h1 h2 => hni k (by simp only [List.mem_cons, List.not_mem_nil, or_false]; omega)) kR
  have kL := gLi.mono (fun k h1 h2 => hni k (by simp only [List.mem_cons, List.not_mem_nil, or_false]; omega)) kL
  have kG := gGr.mono (fun k h1 h2 => hni k (by simp only [List.mem_cons, List.not_mem_nil, or_false]; omega)) kG
  have k58 := (hni 58 (hm58 58 (by decide))).trans k58
  have k59 := (hni 59 (hm58 59 (by decide))).trans k59
  have k60 := (hni 60 (hm58 60 (by decide))).trans k60
  have k61 := (hni 61 (hm58 61 (by decide))).trans k61
  have k62 := (hni 62 (hm58 62 (by decide))).trans k62
  have k63 := (hni 63 (hm58 63 (by decide))).trans k63
  have k64 := (hni 64 (hm58 64 (by decide))).trans k64
  have k65 := (hni 65 (hm58 65 (by decide))).trans k65
  have k66 := (hni 66 (hm58 66 (by decide))).trans k66
  have k67 := (hni 67 (hm58 67 (by decide))).trans k67
  have k68 := (hni 68 (hm58 68 (by decide))).trans k68
  have k69 := (hni 69 (hm58 69 (by decide))).trans k69
  have k70 := (hni 70 (hm58 70 (by decide))).trans k70
  have k71 := (hni 71 (hm58 71 (by decide))).trans k71
  have k72 := (hni 72 (hm58 72 (by decide))).trans k72
  have k73 := (hni 73 (hm58 73 (by decide))).trans k73
  have k74 := (hni 74 (hm58 74 (by decide))).trans k74
  have k75 := (hni 75 (hm58 75 (by decide))).trans k75
  have k76 := (hni 76 (hm58 76 (by decide))).trans k76
  have k77 := (hni 77 (hm58 77 (by decide))).trans k77
  have k78 := (hni 78 (hm58 78 (by decide))).trans k78
  have k79 := (hni 79 (hm58 79 (by decide))).trans k79
  have k80 := (hni 80 (hm58 80 (by decide))).trans k80
  have k81 := (hni 81 (hm58 81 (by decide))).trans k81
  have k82 := (hni 82 (hm58 82 (by decide))).trans k82
  have k83 := (hni 83 (hm58 83 (by decide))).trans k83
  refine lv_aload_n hx hb dL_law_1003 rfl (lv_at hl 2 rfl) ?_
  refine lv_aload_n hx hb dL_law_1004 rfl (lv_at hl 0 rfl) ?_
  refine lv_iload_n hx hb dL_law_1005 rfl (lv_at hl 3 rfl) ?_
  refine lv_iconst (v := (1 : Int32)) hx hb dL_law_1006 (by decide) ?_
  refine lv_iadd hx hb dL_law_1007 ?_
  refine py_sld hx hb hX hbl hbA hS (k := j + 1) i1.1 i1.2 dL_law_1008 ?_
  refine lv_i2l (v := ((xs (j + 1)).toInt64)) hx hb dL_law_1009 rfl ?_
  refine lv_bipush (v := (32 : Int32)) hx hb dL_law_1010 (by decide) ?_
  refine lv_lshl (v := (((xs (j + 1)).toInt64) <<< ((32 : Int32).toInt64 &&& 63))) hx hb dL_law_1012 rfl ?_
  refine lv_aload_n hx hb dL_law_1013 rfl (lv_at hl 0 rfl) ?_
  refine lv_iload_n hx hb dL_law_1014 rfl (lv_at hl 3 rfl) ?_
  refine lv_iconst (v := (2 : Int32)) hx hb dL_law_1015 (by decide) ?_
  refine lv_iadd hx hb dL_law_1016 ?_
  refine py_sld hx hb hX hbl hbA hS (k := j + 2) i2.1 i2.2 dL_law_1017 ?_
  refine lv_i2l (v := ((xs (j + 2)).toInt64)) hx hb dL_law_1018 rfl ?_
  refine lv_ldc2 (v := (4294967295 : Int64)) hx hb hown (hts (.constantLong RL 101 (4294967295)) (List.mem_of_getElem? (i := 6) rfl)) dL_law_1019 ?_
  refine lv_land hx hb dL_law_1022 ?_
  refine lv_lor hx hb dL_law_1023 ?_
  refine lv_aload_n hx hb dL_law_1024 rfl (lv_at hl 0 rfl) ?_
  refine lv_iload_n hx hb dL_law_1025 rfl (lv_at hl 3 rfl) ?_
  refine lv_iconst (v := (3 : Int32)) hx hb dL_law_1026 (by decide) ?_
  refine lv_iadd hx hb dL_law_1027 ?_
  refine py_sld hx hb hX hbl hbA hS (k := j + 3) i3.1 i3.2 dL_law_1028 ?_
  have hnM : ([58, 81] : List Nat).Nodup := show ([58, 81] : List Nat).Nodup by decide
  refine fw_wi (T := Int32 × (Nat → Int32)) (As := [.long ((((xs (j + 1)).toInt64) <<< ((32 : Int32).toInt64 &&& 63)) ||| (((xs (j + 2)).toInt64) &&& (4294967295 : Int64))), .int (xs (j + 3))]) ⟨hx, hb, hml, hown, hts⟩ hKK hP hD hS hA [58, 81] (show ∀ i ∈ ([58, 81] : List Nat), i < 84 by decide) (show ([58, 81] : List Nat).Nodup by decide) (vs := [.inr (9, [.ref (q 59), .ref (q 60), .ref (q 61), .ref (q 62), .ref (q 63), .ref (q 64), .ref (q 65), .ref (q 66), .ref (q 67), .ref (q 68), .ref (q 69), .ref (q 70), .ref (q 71), .ref (q 72), .ref (q 73), .ref (q 74), .ref (q 75), .ref (q 76), .int mhs, .ref (q 77), .ref (q 78), .ref (q 79), .ref (q 80), .ref (q 81), .int mtd, .int mat, .int mfa, .int mss, .ref (q 82), .ref (q 83)]), .inl (cy 0, (80, .inl mtp))]) (lc k58 (lc k81 rfl)) rfl 58 9 (by decide) rfl k58 [58, 81] (show ∀ i ∈ ([58, 81] : List Nat), i ∈ ([58, 81] : List Nat) by decide) (fun (u : Int32 × (Nat → Int32)) => [.inr (9, [.ref (q 59), .ref (q 60), .ref (q 61), .ref (q 62), .ref (q 63), .ref (q 64), .ref (q 65), .ref (q 66), .ref (q 67), .ref (q 68), .ref (q 69), .ref (q 70), .ref (q 71), .ref (q 72), .ref (q 73), .ref (q 74), .ref (q 75), .ref (q 76), .int mhs, .ref (q 77), .ref (q 78), .ref (q 79), .ref (q 80), .ref (q 81), .int u.1, .int mat, .int mfa, .int mss, .ref (q 82), .ref (q 83)]), .inl (cy 0, (80, .inl u.2))]) (fun (u : Int32 × (Nat → Int32)) => [.inr (9, [.ref (q 59), .ref (q 60), .ref (q 61), .ref (q 62), .ref (q 63), .ref (q 64), .ref (q 65), .ref (q 66), .ref (q 67), .ref (q 68), .ref (q 69), .ref (q 70), .ref (q 71), .ref (q 72), .ref (q 73), .ref (q 74), .ref (q 75), .ref (q 76), .int mhs, .ref (q 77), .ref (q 78), .ref (q 79), .ref (q 80), .ref (q 81), .int u.1, .int mat, .int mfa, .int mss, .ref (q 82), .ref (q 83)]), .inl (cy 0, (80, .inl u.2))]) (fun u => (lc (asg_at 0 hnM rfl rfl) (lc (asg_at 1 hnM rfl rfl) rfl))) (fun _ => rfl) (c_X9_type l D cy (q 59) (q 60) (q 61) (q 62) (q 63) (q 64) (q 65) (q 66) (q 67) (q 68) (q 69) (q 70) (q 71) (q 72) (q 73) (q 74) (q 75) (q 76) (q 77) (q 78) (q 79) (q 80) (q 81) (q 82) (q 83) (q 58) mhs mtd mat mfa mss mtp ((((xs (j + 1)).toInt64) <<< ((32 : Int32).toInt64 &&& 63)) ||| (((xs (j + 2)).toInt64) &&& (4294967295 : Int64))) (xs (j + 3)) H.size _ h) (cwV 2 hts gL_law_X9_type rfl rfl rfl cdv_X9_type ⟨Nat.le_of_ble_eq_true rfl, Nat.le_of_ble_eq_true rfl⟩) rfl hl.1 rfl (Nat.le_of_ble_eq_true rfl) ⟨Nat.le_refl _, Nat.le_refl _⟩ dL_law_1029 (fun r_4 u H locs h hP hD hS => ?_)
  obtain ⟨c_5, c_6⟩ := u
  try dsimp only at h
  obtain ⟨ce2, e2⟩ : ∃ z : Nat → va_E, z = asg [58, 81] [.inr (9, [.ref (q 59), .ref (q 60), .ref (q 61), .ref (q 62), .ref (q 63), .ref (q 64), .ref (q 65), .ref (q 66), .ref (q 67), .ref (q 68), .ref (q 69), .ref (q 70), .ref (q 71), .ref (q 72), .ref (q 73), .ref (q 74), .ref (q 75), .ref (q 76), .int mhs, .ref (q 77), .ref (q 78), .ref (q 79), .ref (q 80), .ref (q 81), .int c_5, .int mat, .int mfa, .int mss, .ref (q 82), .ref (q 83)]), .inl (cy 0, (80, .inl c_6))] ce1 := ⟨_, rfl⟩
  have hP : va_P D vwCl (fw q ce2) H := by rw [e2]; exact hP
  have hD : va_D A (fw q ce2) := by rw [e2]; exact hD
  have hni : ∀ k, k ∉ ([58, 81] : List Nat) → ce2 k = ce1 k := fun k hk => (congrFun e2 k).trans (asg_out hk)
  have k0 := (hni 0 (show 0 ∉ ([58, 81] : List Nat) by decide)).trans k0
  have k1 := (hni 1 (show 1 ∉ ([58, 81] : List Nat) by decide)).trans k1
  have k2 := (hni 2 (show 2 ∉ ([58, 81] : List Nat) by decide)).trans k2
  have kS := gSh.mono (fun k h1 h2 => hni k (by simp only [List.mem_cons, List.not_mem_nil, or_false]; omega)) kS
  have kY := gYr.mono (fun k h1 h2 => hni k (by simp only [List.mem_cons, List.not_mem_nil, or_false]; omega)) kY
  have k31 := (hni 31 (show 31 ∉ ([58, 81] : List Nat) by decide)).trans k31
  have k32 := (hni 32 (show 32 ∉ ([58, 81] : List Nat) by decide)).trans k32
  have kJ := gJt.mono (fun k h1 h2 => hni k (by simp only [List.mem_cons, List.not_mem_nil, or_false]; omega)) kJ
  have kF := gFi.mono (fun k h1 h2 => hni k (by simp only [List.mem_cons, List.not_mem_nil, or_false]; omega)) kF
  have kR := gRo.mono (fun k h1 h2 => hni k (by simp only [List.mem_cons, List.not_mem_nil, or_false]; omega)) kR
  have kL := gLi.mono (fun k h1 h2 => hni k (by simp only [List.mem_cons, List.not_mem_nil, or_false]; omega)) kL
  have kG := gGr.mono (fun k h1 h2 => hni k (by simp only [List.mem_cons, List.not_mem_nil, or_false]; omega)) kG
  have k58 := (congrFun e2 58).trans (asg_at 0 hnM rfl rfl)
  have k59 := (hni 59 (show 59 ∉ ([58, 81] : List Nat) by decide)).trans k59
  have k60 := (hni 60 (show 60 ∉ ([58, 81] : List Nat) by decide)).trans k60
  have k61 := (hni 61 (show 61 ∉ ([58, 81] : List Nat) by decide)).trans k61
  have k62 := (hni 62 (show 62 ∉ ([58, 81] : List Nat) by decide)).trans k62
  have k63 := (hni 63 (show 63 ∉ ([58, 81] : List Nat) by decide)).trans k63
  have k64 := (hni 64 (show 64 ∉ ([58, 81] : List Nat) by decide)).trans k64
  have k65 := (hni 65 (show 65 ∉ ([58, 81] : List Nat) by decide)).trans k65
  have k66 := (hni 66 (show 66 ∉ ([58, 81] : List Nat) by decide)).trans k66
  have k67 := (hni 67 (show 67 ∉ ([58, 81] : List Nat) by decide)).trans k67
  have k68 := (hni 68 (show 68 ∉ ([58, 81] : List Nat) by decide)).trans k68
  have k69 := (hni 69 (show 69 ∉ ([58, 81] : List Nat) by decide)).trans k69
  have k70 := (hni 70 (show 70 ∉ ([58, 81] : List Nat) by decide)).trans k70
  have k71 := (hni 71 (show 71 ∉ ([58, 81] : List Nat) by decide)).trans k71
  have k72 := (hni 72 (show 72 ∉ ([58, 81] : List Nat) by decide)).trans k72
  have k73 := (hni 73 (show 73 ∉ ([58, 81] : List Nat) by decide)).trans k73
  have k74 := (hni 74 (show 74 ∉ ([58, 81] : List Nat) by decide)).trans k74
  have k75 := (hni 75 (show 75 ∉ ([58, 81] : List Nat) by decide)).trans k75
  have k76 := (hni 76 (show 76 ∉ ([58, 81] : List Nat) by decide)).trans k76
  have k77 := (hni 77 (show 77 ∉ ([58, 81] : List Nat) by decide)).trans k77
  have k78 := (hni 78 (show 78 ∉ ([58, 81] : List Nat) by decide)).trans k78
  have k79 := (hni 79 (show 79 ∉ ([58, 81] : List Nat) by decide)).trans k79
  have k80 := (hni 80 (show 80 ∉ ([58, 81] : List Nat) by decide)).trans k80
  have k81 := (congrFun e2 81).trans (asg_at 1 hnM rfl rfl)
  have k82 := (hni 82 (show 82 ∉ ([58, 81] : List Nat) by decide)).trans k82
  have k83 := (hni 83 (show 83 ∉ ([58, 81] : List Nat) by decide)).trans k83
  refine lv_icmp_eq (tgt := 1060) hx hb dL_law_1032 (by decide) (fun c_ => ?_) (fun c_ => absurd h.1 c_)
  exact next H locs ⟨ce2, _, _, _, _, _, _, _, _, _, _, _, _, _, _, _, _, _, _, _, _, _, _, _, _, _, _, _, _, _, _, ⟨k0, k1, k2⟩, kS, kY, ⟨k31, k32⟩, kJ, kF, kR, kL, kG, ⟨_, _, _, _, _, _, _, _, _, _, _, _, _, _, _, k58, k59, k60, k61, k62, k63, k64, k65, k66, k67, k68, k69, k70, k71, k72, k73, k74, k75, k76, k77, k78, k79, k80, k81, k82, k83⟩, h.2, hP, hD, hS⟩ ls hl
