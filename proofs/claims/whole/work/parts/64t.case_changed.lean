set_option maxHeartbeats 4000000 in
set_option maxRecDepth 20000 in
theorem law_changed {p : Program} {l : Launch} {e : Env} {s : State} {m : MethodId} {below : List Frame} {meth : Method} {c : Code} {b L : Nat} {xs : Nat → Int32} {A : Nat → Prop} {Qf : State → Prop} {D : va_G} {cy : Nat → ClassId} {q : Nat → Nat} {gS gY gF : Nat → Option Nat} (hx : p.tables.exec = Jvm.exec) (hb : c.code = cL_law) (hml : c.maxLocals = 4) (hown : s.vm.findClass RL = some m.cls) (hts : ∀ w ∈ wsL_law, w.before #[Value.ref b] s = true) (hKK : py_K D cy s) (hX : va_X b L xs s s.heap) (hbl : b < s.heap.size) (hbA : ¬ A b) (hA : ∀ q : Nat, s.heap.size ≤ q → A q) (hgS : ∀ t, t < 4 → gS t = some (q (3 + 2 * t))) (hgY : ∀ t, t < 2 → gY t = some (q (11 + 10 * t))) (hgF0 : gF 0 = some (q 41)) (hgF1 : gF 1 = some (q 42)) (hgF2 : gF 2 = some (q 43)) (j : Nat) (hj : j + 6 ≤ L) (hL : L ≤ 3072) (H : Heap) (locs : List Loc) (hw : LWd D cy q gS gY gF A s H locs) (ls : Array Slot) (hl : lv_has ls 4 [(0, .ref b), (1, .ref (q 0)), (2, .ref (q 58)), (3, .int (nI j))])
    (next : ∀ (H : Heap) (locs : List Loc), LWd D cy q gS gY gF A s H locs → ∀ (ls : Array Slot), lv_has ls 4 [(0, .ref b), (1, .ref (q 0)), (2, .ref (q 58)), (3, .int (nI j))] → W p l e room_1 s m #[Value.ref b] below meth c H locs 600000 7302250 Qf (F0 m 1060 ls [])) : W p l e room_1 s m #[Value.ref b] below meth c H locs 600000 7302250 Qf (F0 m 941 ls []) := by
  obtain ⟨ce, lane, size, items, ysz, yx, yy, yz, yst, ykd, ybh, yrd, ysh, ylo, tn, tb, mla, msi, mit, mma, mpx, mpy, mpz, mst, mkd, mbh, mrd, mlo, msh, mtp, mtd, kX, kS, kY, kT, kJ, kF, kR, kL, kG, kM, hR, hP, hD, hS⟩ := hw
  have i1 := py_ix (k := 1) (y := (1 : Int32)) hj hL (by decide) (by decide)
  have i2 := py_ix (k := 2) (y := (2 : Int32)) hj hL (by decide) (by decide)
  obtain ⟨k0, k1, k2⟩ := kX
  obtain ⟨gr1, gr2, k54, k55, k56, k57⟩ := kG
  obtain ⟨msp, mmx, mri, mfo, mhi, mne, mce, mpa, mbe, mwh, mnu, mhs, mat, mfa, mss, k58, k59, k60, k61, k62, k63, k64, k65, k66, k67, k68, k69, k70, k71, k72, k73, k74, k75, k76, k77, k78, k79, k80, k81, k82, k83⟩ := kM
  have h : lw_changed lane size items ysz yx yy yz yst ykd ybh yrd ysh ylo tn tb mla msi mit mma mpx mpy mpz mst mkd mbh mrd mlo msh mtp mtd gr1 gr2 mce mbe (xs (j + 1)) (xs (j + 2)) RR := t_changed hR gr1 gr2 mce mbe (xs (j + 1)) (xs (j + 2))
  unfold lw_changed at h
  refine lv_aload_n hx hb dL_law_941 rfl (lv_at hl 1 rfl) ?_
  refine lv_aload_n hx hb dL_law_942 rfl (lv_at hl 0 rfl) ?_
  refine lv_iload_n hx hb dL_law_943 rfl (lv_at hl 3 rfl) ?_
  refine lv_iconst (v := (1 : Int32)) hx hb dL_law_944 (by decide) ?_
  refine lv_iadd hx hb dL_law_945 ?_
  refine py_sld hx hb hX hbl hbA hS (k := j + 1) i1.1 i1.2 dL_law_946 ?_
  refine lv_aload_n hx hb dL_law_947 rfl (lv_at hl 0 rfl) ?_
  refine lv_iload_n hx hb dL_law_948 rfl (lv_at hl 3 rfl) ?_
  refine lv_iconst (v := (2 : Int32)) hx hb dL_law_949 (by decide) ?_
  refine lv_iadd hx hb dL_law_950 ?_
  refine py_sld hx hb hX hbl hbA hS (k := j + 2) i2.1 i2.2 dL_law_951 ?_
  have hnM : ([55, 57] : List Nat).Nodup := show ([55, 57] : List Nat).Nodup by decide
  refine fw_wi (T := (Nat → Int32) × (Nat → Int32)) (As := [.int (xs (j + 1)), .int (xs (j + 2))]) ⟨hx, hb, hml, hown, hts⟩ hKK hP hD hS hA [0, 2, (11 + 10 * 0), 54, 55, (16 + 10 * 0), (12 + 10 * 0), (13 + 10 * 0), (14 + 10 * 0), (15 + 10 * 0), (19 + 10 * 0), (11 + 10 * 1), 56, 57, (16 + 10 * 1), (12 + 10 * 1), (13 + 10 * 1), (14 + 10 * 1), (15 + 10 * 1), (19 + 10 * 1)] (show ∀ i ∈ ([0, 2, (11 + 10 * 0), 54, 55, (16 + 10 * 0), (12 + 10 * 0), (13 + 10 * 0), (14 + 10 * 0), (15 + 10 * 0), (19 + 10 * 0), (11 + 10 * 1), 56, 57, (16 + 10 * 1), (12 + 10 * 1), (13 + 10 * 1), (14 + 10 * 1), (15 + 10 * 1), (19 + 10 * 1)] : List Nat), i < 84 by decide) (show ([0, 2, (11 + 10 * 0), 54, 55, (16 + 10 * 0), (12 + 10 * 0), (13 + 10 * 0), (14 + 10 * 0), (15 + 10 * 0), (19 + 10 * 0), (11 + 10 * 1), 56, 57, (16 + 10 * 1), (12 + 10 * 1), (13 + 10 * 1), (14 + 10 * 1), (15 + 10 * 1), (19 + 10 * 1)] : List Nat).Nodup by decide) (vs := [.inr (8, [.ref (q 1), .ref (q 2), .ref (q 31), .ref (q 33), .ref (q 38), .ref (q 46), .ref (q 51), .ref (q 54), .ref (q 56)]), .inl (cy 5, (2, .inr (.inr (.inr (.inr gY))))), .inr (7, [.ref (q (12 + 10 * 0)), .ref (q (13 + 10 * 0)), .ref (q (14 + 10 * 0)), .ref (q (15 + 10 * 0)), .ref (q (16 + 10 * 0)), .ref (q (17 + 10 * 0)), .ref (q (18 + 10 * 0)), .ref (q (19 + 10 * 0)), .ref (q (20 + 10 * 0)), .int (ysz 0)]), .inr (1, [.ref (q 55)]), .inl (cy 0, (256, .inl gr1)), .inl (cy 0, (100, .inl (ykd 0))), .inl (cy 0, (100, .inl (yx 0))), .inl (cy 0, (100, .inl (yy 0))), .inl (cy 0, (100, .inl (yz 0))), .inl (cy 0, (100, .inl (yst 0))), .inl (cy 0, (4, .inl (ysh 0))), .inr (7, [.ref (q (12 + 10 * 1)), .ref (q (13 + 10 * 1)), .ref (q (14 + 10 * 1)), .ref (q (15 + 10 * 1)), .ref (q (16 + 10 * 1)), .ref (q (17 + 10 * 1)), .ref (q (18 + 10 * 1)), .ref (q (19 + 10 * 1)), .ref (q (20 + 10 * 1)), .int (ysz 1)]), .inr (1, [.ref (q 57)]), .inl (cy 0, (256, .inl gr2)), .inl (cy 0, (100, .inl (ykd 1))), .inl (cy 0, (100, .inl (yx 1))), .inl (cy 0, (100, .inl (yy 1))), .inl (cy 0, (100, .inl (yz 1))), .inl (cy 0, (100, .inl (yst 1))), .inl (cy 0, (4, .inl (ysh 1)))]) (lc k0 (lc k2 (lc (kY 0 (by decide)).1 (lc k54 (lc k55 (lc (kY 0 (by decide)).2.2.2.2.2.1 (lc (kY 0 (by decide)).2.1 (lc (kY 0 (by decide)).2.2.1 (lc (kY 0 (by decide)).2.2.2.1 (lc (kY 0 (by decide)).2.2.2.2.1 (lc (kY 0 (by decide)).2.2.2.2.2.2.2.2.1 (lc (kY 1 (by decide)).1 (lc k56 (lc k57 (lc (kY 1 (by decide)).2.2.2.2.2.1 (lc (kY 1 (by decide)).2.1 (lc (kY 1 (by decide)).2.2.1 (lc (kY 1 (by decide)).2.2.2.1 (lc (kY 1 (by decide)).2.2.2.2.1 (lc (kY 1 (by decide)).2.2.2.2.2.2.2.2.1 rfl)))))))))))))))))))) rfl 0 8 (by decide) rfl k0 [55, 57] (show ∀ i ∈ ([55, 57] : List Nat), i ∈ ([0, 2, (11 + 10 * 0), 54, 55, (16 + 10 * 0), (12 + 10 * 0), (13 + 10 * 0), (14 + 10 * 0), (15 + 10 * 0), (19 + 10 * 0), (11 + 10 * 1), 56, 57, (16 + 10 * 1), (12 + 10 * 1), (13 + 10 * 1), (14 + 10 * 1), (15 + 10 * 1), (19 + 10 * 1)] : List Nat) by decide) (fun (u : (Nat → Int32) × (Nat → Int32)) => [.inl (cy 0, (256, .inl u.1)), .inl (cy 0, (256, .inl u.2))]) (fun (u : (Nat → Int32) × (Nat → Int32)) => [.inr (8, [.ref (q 1), .ref (q 2), .ref (q 31), .ref (q 33), .ref (q 38), .ref (q 46), .ref (q 51), .ref (q 54), .ref (q 56)]), .inl (cy 5, (2, .inr (.inr (.inr (.inr gY))))), .inr (7, [.ref (q (12 + 10 * 0)), .ref (q (13 + 10 * 0)), .ref (q (14 + 10 * 0)), .ref (q (15 + 10 * 0)), .ref (q (16 + 10 * 0)), .ref (q (17 + 10 * 0)), .ref (q (18 + 10 * 0)), .ref (q (19 + 10 * 0)), .ref (q (20 + 10 * 0)), .int (ysz 0)]), .inr (1, [.ref (q 55)]), .inl (cy 0, (256, .inl u.1)), .inl (cy 0, (100, .inl (ykd 0))), .inl (cy 0, (100, .inl (yx 0))), .inl (cy 0, (100, .inl (yy 0))), .inl (cy 0, (100, .inl (yz 0))), .inl (cy 0, (100, .inl (yst 0))), .inl (cy 0, (4, .inl (ysh 0))), .inr (7, [.ref (q (12 + 10 * 1)), .ref (q (13 + 10 * 1)), .ref (q (14 + 10 * 1)), .ref (q (15 + 10 * 1)), .ref (q (16 + 10 * 1)), .ref (q (17 + 10 * 1)), .ref (q (18 + 10 * 1)), .ref (q (19 + 10 * 1)), .ref (q (20 + 10 * 1)), .int (ysz 1)]), .inr (1, [.ref (q 57)]), .inl (cy 0, (256, .inl u.2)), .inl (cy 0, (100, .inl (ykd 1))), .inl (cy 0, (100, .inl (yx 1))), .inl (cy 0, (100, .inl (yy 1))), .inl (cy 0, (100, .inl (yz 1))), .inl (cy 0, (100, .inl (yst 1))), .inl (cy 0, (4, .inl (ysh 1)))]) (fun u => (lc ((asg_out (show 0 ∉ ([55, 57] : List Nat) by decide)).trans k0) (lc ((asg_out (show 2 ∉ ([55, 57] : List Nat) by decide)).trans k2) (lc ((asg_out (show (11 + 10 * 0) ∉ ([55, 57] : List Nat) by decide)).trans (kY 0 (by decide)).1) (lc ((asg_out (show 54 ∉ ([55, 57] : List Nat) by decide)).trans k54) (lc (asg_at 0 hnM rfl rfl) (lc ((asg_out (show (16 + 10 * 0) ∉ ([55, 57] : List Nat) by decide)).trans (kY 0 (by decide)).2.2.2.2.2.1) (lc ((asg_out (show (12 + 10 * 0) ∉ ([55, 57] : List Nat) by decide)).trans (kY 0 (by decide)).2.1) (lc ((asg_out (show (13 + 10 * 0) ∉ ([55, 57] : List Nat) by decide)).trans (kY 0 (by decide)).2.2.1) (lc ((asg_out (show (14 + 10 * 0) ∉ ([55, 57] : List Nat) by decide)).trans (kY 0 (by decide)).2.2.2.1) (lc ((asg_out (show (15 + 10 * 0) ∉ ([55, 57] : List Nat) by decide)).trans (kY 0 (by decide)).2.2.2.2.1) (lc ((asg_out (show (19 + 10 * 0) ∉ ([55, 57] : List Nat) by decide)).trans (kY 0 (by decide)).2.2.2.2.2.2.2.2.1) (lc ((asg_out (show (11 + 10 * 1) ∉ ([55, 57] : List Nat) by decide)).trans (kY 1 (by decide)).1) (lc ((asg_out (show 56 ∉ ([55, 57] : List Nat) by decide)).trans k56) (lc (asg_at 1 hnM rfl rfl) (lc ((asg_out (show (16 + 10 * 1) ∉ ([55, 57] : List Nat) by decide)).trans (kY 1 (by decide)).2.2.2.2.2.1) (lc ((asg_out (show (12 + 10 * 1) ∉ ([55, 57] : List Nat) by decide)).trans (kY 1 (by decide)).2.1) (lc ((asg_out (show (13 + 10 * 1) ∉ ([55, 57] : List Nat) by decide)).trans (kY 1 (by decide)).2.2.1) (lc ((asg_out (show (14 + 10 * 1) ∉ ([55, 57] : List Nat) by decide)).trans (kY 1 (by decide)).2.2.2.1) (lc ((asg_out (show (15 + 10 * 1) ∉ ([55, 57] : List Nat) by decide)).trans (kY 1 (by decide)).2.2.2.2.1) (lc ((asg_out (show (19 + 10 * 1) ∉ ([55, 57] : List Nat) by decide)).trans (kY 1 (by decide)).2.2.2.2.2.2.2.2.1) rfl))))))))))))))))))))) (fun _ => rfl) (c_X8_changed l D cy (q 1) (q 2) (q 31) (q 33) (q 38) (q 46) (q 51) (q 54) (q 56) (q 0) (q (12 + 10 * 0)) (q (13 + 10 * 0)) (q (14 + 10 * 0)) (q (15 + 10 * 0)) (q (16 + 10 * 0)) (q (17 + 10 * 0)) (q (18 + 10 * 0)) (q (19 + 10 * 0)) (q (20 + 10 * 0)) (q (11 + 10 * 0)) (q 55) (q (12 + 10 * 1)) (q (13 + 10 * 1)) (q (14 + 10 * 1)) (q (15 + 10 * 1)) (q (16 + 10 * 1)) (q (17 + 10 * 1)) (q (18 + 10 * 1)) (q (19 + 10 * 1)) (q (20 + 10 * 1)) (q (11 + 10 * 1)) (q 57) gY (hgY 0 (by decide)) (hgY 1 (by decide)) (ysz 0) gr1 (ykd 0) (yx 0) (yy 0) (yz 0) (yst 0) (ysh 0) (ysz 1) gr2 (ykd 1) (yx 1) (yy 1) (yz 1) (yst 1) (ysh 1) (xs (j + 1)) (xs (j + 2)) H.size _ h) (cwV 2 hts gL_law_X8_changed rfl rfl rfl cdv_X8_changed ⟨Nat.le_of_ble_eq_true rfl, Nat.le_of_ble_eq_true rfl⟩) rfl hl.1 rfl (Nat.le_of_ble_eq_true rfl) ⟨Nat.le_refl _, Nat.le_refl _⟩ dL_law_952 (fun r_1 u H locs h hP hD hS => ?_)
  obtain ⟨c_2, c_3⟩ := u
  try dsimp only at h
  obtain ⟨ce1, e1⟩ : ∃ z : Nat → va_E, z = asg [55, 57] [.inl (cy 0, (256, .inl c_2)), .inl (cy 0, (256, .inl c_3))] ce := ⟨_, rfl⟩
  have hP : va_P D vwCl (fw q ce1) H := by rw [e1]; exact hP
  have hD : va_D A (fw q ce1) := by rw [e1]; exact hD
  have hni : ∀ k, k ∉ ([55, 57] : List Nat) → ce1 k = ce k := fun k hk => (congrFun e1 k).trans (asg_out hk)
  have hm58 : ∀ k, 58 ≤ k → k ∉ ([55, 57] : List Nat) := by intro k hk; simp only [List.mem_cons, List.not_mem_nil, or_false]; omega
  have k0 := (hni 0 (show 0 ∉ ([55, 57] : List Nat) by decide)).trans k0
  have k1 := (hni 1 (show 1 ∉ ([55, 57] : List Nat) by decide)).trans k1
  have k2 := (hni 2 (show 2 ∉ ([55, 57] : List Nat) by decide)).trans k2
  have kS := gSh.mono (fun k h1 h2 => hni k (by simp only [List.mem_cons, List.not_mem_nil, or_false]; omega)) kS
  have kY := gYr.mono (fun k h1 h2 => hni k (by simp only [List.mem_cons, List.not_mem_nil, or_false]; omega)) kY
  have kT := gTp.mono (fun k h1 h2 => hni k (by simp only [List.mem_cons, List.not_mem_nil, or_false]; omega)) kT
  have kJ := gJt.mono (fun k h1 h2 => hni k (by simp only [List.mem_cons, List.not_mem_nil, or_false]; omega)) kJ
  have kF := gFi.mono (fun k h1 h2 => hni k (by simp only [List.mem_cons, List.not_mem_nil, or_false]; omega)) kF
  have kR := gRo.mono (fun k h1 h2 => hni k (by simp only [List.mem_cons, List.not_mem_nil, or_false]; omega)) kR
  have kL := gLi.mono (fun k h1 h2 => hni k (by simp only [List.mem_cons, List.not_mem_nil, or_false]; omega)) kL
  have k54 := (hni 54 (show 54 ∉ ([55, 57] : List Nat) by decide)).trans k54
  have k55 := (congrFun e1 55).trans (asg_at 0 hnM rfl rfl)
  have k56 := (hni 56 (show 56 ∉ ([55, 57] : List Nat) by decide)).trans k56
  have k57 := (congrFun e1 57).trans (asg_at 1 hnM rfl rfl)
  have k58 := (hni 58 (hm58 58 (by decide))).trans k58
  have k59 := (hni 59 (hm58 59 (by decide))).trans k59
  have k60 := (hni 60 (hm58 60 (by decide))).trans k60
  have k61 := (hni 61 (hm58 61 (by decide))).trans k61
  have k62 := (hni 62 (hm58 62 (by decide))).trans k62
  have k63 := (hni 63 (hm58 63 (by decide))).trans k63
  have k64 := (hni 64 (hm58 64 (by decide))).trans k64
  have k65 := (hni 65 (hm58 65 (by decide))).trans k65
  have k66 := (hni 66 (hm58 66 (by decide))).trans k66
  have k67 := (hni 67 (hm58 67 (by decide))).trans k67
  have k68 := (hni 68 (hm58 68 (by decide))).trans k68
  have k69 := (hni 69 (hm58 69 (by decide))).trans k69
  have k70 := (hni 70 (hm58 70 (by decide))).trans k70
  have k71 := (hni 71 (hm58 71 (by decide))).trans k71
  have k72 := (hni 72 (hm58 72 (by decide))).trans k72
  have k73 := (hni 73 (hm58 73 (by decide))).trans k73
  have k74 := (hni 74 (hm58 74 (by decide))).trans k74
  have k75 := (hni 75 (hm58 75 (by decide))).trans k75
  have k76 := (hni 76 (hm58 76 (by decide))).trans k76
  have k77 := (hni 77 (hm58 77 (by decide))).trans k77
  have k78 := (hni 78 (hm58 78 (by decide))).trans k78
  have k79 := (hni 79 (hm58 79 (by decide))).trans k79
  have k80 := (hni 80 (hm58 80 (by decide))).trans k80
  have k81 := (hni 81 (hm58 81 (by decide))).trans k81
  have k82 := (hni 82 (hm58 82 (by decide))).trans k82
  have k83 := (hni 83 (hm58 83 (by decide))).trans k83
  refine lv_aload_n hx hb dL_law_955 rfl (lv_at hl 2 rfl) ?_
  refine lv_aload_n hx hb dL_law_956 rfl (lv_at hl 0 rfl) ?_
  refine lv_iload_n hx hb dL_law_957 rfl (lv_at hl 3 rfl) ?_
  refine lv_iconst (v := (1 : Int32)) hx hb dL_law_958 (by decide) ?_
  refine lv_iadd hx hb dL_law_959 ?_
  refine py_sld hx hb hX hbl hbA hS (k := j + 1) i1.1 i1.2 dL_law_960 ?_
  refine lv_aload_n hx hb dL_law_961 rfl (lv_at hl 0 rfl) ?_
  refine lv_iload_n hx hb dL_law_962 rfl (lv_at hl 3 rfl) ?_
  refine lv_iconst (v := (2 : Int32)) hx hb dL_law_963 (by decide) ?_
  refine lv_iadd hx hb dL_law_964 ?_
  refine py_sld hx hb hX hbl hbA hS (k := j + 2) i2.1 i2.2 dL_law_965 ?_
  have hnM : ([78, 80] : List Nat).Nodup := show ([78, 80] : List Nat).Nodup by decide
  refine fw_wi (T := (Nat → Int32) × (Nat → Int32)) (As := [.int (xs (j + 1)), .int (xs (j + 2))]) ⟨hx, hb, hml, hown, hts⟩ hKK hP hD hS hA [58, 78, 63, 64, 65, 66, 67, 72, 68, 80] (show ∀ i ∈ ([58, 78, 63, 64, 65, 66, 67, 72, 68, 80] : List Nat), i < 84 by decide) (show ([58, 78, 63, 64, 65, 66, 67, 72, 68, 80] : List Nat).Nodup by decide) (vs := [.inr (9, [.ref (q 59), .ref (q 60), .ref (q 61), .ref (q 62), .ref (q 63), .ref (q 64), .ref (q 65), .ref (q 66), .ref (q 67), .ref (q 68), .ref (q 69), .ref (q 70), .ref (q 71), .ref (q 72), .ref (q 73), .ref (q 74), .ref (q 75), .ref (q 76), .int mhs, .ref (q 77), .ref (q 78), .ref (q 79), .ref (q 80), .ref (q 81), .int mtd, .int mat, .int mfa, .int mss, .ref (q 82), .ref (q 83)]), .inl (cy 0, (256, .inl mce)), .inl (cy 0, (2, .inl mma)), .inl (cy 0, (200, .inl mpx)), .inl (cy 0, (200, .inl mpy)), .inl (cy 0, (200, .inl mpz)), .inl (cy 0, (200, .inl mst)), .inl (cy 0, (8, .inl msh)), .inl (cy 0, (200, .inl mkd)), .inl (cy 0, (256, .inl mbe))]) (lc k58 (lc k78 (lc k63 (lc k64 (lc k65 (lc k66 (lc k67 (lc k72 (lc k68 (lc k80 rfl)))))))))) rfl 58 9 (by decide) rfl k58 [78, 80] (show ∀ i ∈ ([78, 80] : List Nat), i ∈ ([58, 78, 63, 64, 65, 66, 67, 72, 68, 80] : List Nat) by decide) (fun (u : (Nat → Int32) × (Nat → Int32)) => [.inl (cy 0, (256, .inl u.1)), .inl (cy 0, (256, .inl u.2))]) (fun (u : (Nat → Int32) × (Nat → Int32)) => [.inr (9, [.ref (q 59), .ref (q 60), .ref (q 61), .ref (q 62), .ref (q 63), .ref (q 64), .ref (q 65), .ref (q 66), .ref (q 67), .ref (q 68), .ref (q 69), .ref (q 70), .ref (q 71), .ref (q 72), .ref (q 73), .ref (q 74), .ref (q 75), .ref (q 76), .int mhs, .ref (q 77), .ref (q 78), .ref (q 79), .ref (q 80), .ref (q 81), .int mtd, .int mat, .int mfa, .int mss, .ref (q 82), .ref (q 83)]), .inl (cy 0, (256, .inl u.1)), .inl (cy 0, (2, .inl mma)), .inl (cy 0, (200, .inl mpx)), .inl (cy 0, (200, .inl mpy)), .inl (cy 0, (200, .inl mpz)), .inl (cy 0, (200, .inl mst)), .inl (cy 0, (8, .inl msh)), .inl (cy 0, (200, .inl mkd)), .inl (cy 0, (256, .inl u.2))]) (fun u => (lc ((asg_out (show 58 ∉ ([78, 80] : List Nat) by decide)).trans k58) (lc (asg_at 0 hnM rfl rfl) (lc ((asg_out (show 63 ∉ ([78, 80] : List Nat) by decide)).trans k63) (lc ((asg_out (show 64 ∉ ([78, 80] : List Nat) by decide)).trans k64) (lc ((asg_out (show 65 ∉ ([78, 80] : List Nat) by decide)).trans k65) (lc ((asg_out (show 66 ∉ ([78, 80] : List Nat) by decide)).trans k66) (lc ((asg_out (show 67 ∉ ([78, 80] : List Nat) by decide)).trans k67) (lc ((asg_out (show 72 ∉ ([78, 80] : List Nat) by decide)).trans k72) (lc ((asg_out (show 68 ∉ ([78, 80] : List Nat) by decide)).trans k68) (lc (asg_at 1 hnM rfl rfl) rfl))))))))))) (fun _ => rfl) (c_X9_changed l D cy (q 59) (q 60) (q 61) (q 62) (q 63) (q 64) (q 65) (q 66) (q 67) (q 68) (q 69) (q 70) (q 71) (q 72) (q 73) (q 74) (q 75) (q 76) (q 77) (q 78) (q 79) (q 80) (q 81) (q 82) (q 83) (q 58) mhs mtd mat mfa mss mce mma mpx mpy mpz mst msh mkd mbe (xs (j + 1)) (xs (j + 2)) H.size _ h) (cwV 2 hts gL_law_X9_changed rfl rfl rfl cdv_X9_changed ⟨Nat.le_of_ble_eq_true rfl, Nat.le_of_ble_eq_true rfl⟩) rfl hl.1 rfl (Nat.le_of_ble_eq_true rfl) ⟨Nat.le_refl _, Nat.le_refl _⟩ dL_law_966 (fun r_4 u H locs h hP hD hS => ?_)
  obtain ⟨c_5, c_6⟩ := u
  try dsimp only at h
  obtain ⟨ce2, e2⟩ : ∃ z : Nat → va_E, z = asg [78, 80] [.inl (cy 0, (256, .inl c_5)), .inl (cy 0, (256, .inl c_6))] ce1 := ⟨_, rfl⟩
  have hP : va_P D vwCl (fw q ce2) H := by rw [e2]; exact hP
  have hD : va_D A (fw q ce2) := by rw [e2]; exact hD
  have hni : ∀ k, k ∉ ([78, 80] : List Nat) → ce2 k = ce1 k := fun k hk => (congrFun e2 k).trans (asg_out hk)
  have k0 := (hni 0 (show 0 ∉ ([78, 80] : List Nat) by decide)).trans k0
  have k1 := (hni 1 (show 1 ∉ ([78, 80] : List Nat) by decide)).trans k1
  have k2 := (hni 2 (show 2 ∉ ([78, 80] : List Nat) by decide)).trans k2
  have kS := gSh.mono (fun k h1 h2 => hni k (by simp only [List.mem_cons, List.not_mem_nil, or_false]; omega)) kS
  have kY := gYr.mono (fun k h1 h2 => hni k (by simp only [List.mem_cons, List.not_mem_nil, or_false]; omega)) kY
  have kT := gTp.mono (fun k h1 h2 => hni k (by simp only [List.mem_cons, List.not_mem_nil, or_false]; omega)) kT
  have kJ := gJt.mono (fun k h1 h2 => hni k (by simp only [List.mem_cons, List.not_mem_nil, or_false]; omega)) kJ
  have kF := gFi.mono (fun k h1 h2 => hni k (by simp only [List.mem_cons, List.not_mem_nil, or_false]; omega)) kF
  have kR := gRo.mono (fun k h1 h2 => hni k (by simp only [List.mem_cons, List.not_mem_nil, or_false]; omega)) kR
  have kL := gLi.mono (fun k h1 h2 => hni k (by simp only [List.mem_cons, List.not_mem_nil, or_false]; omega)) kL
  have k54 := (hni 54 (show 54 ∉ ([78, 80] : List Nat) by decide)).trans k54
  have k55 := (hni 55 (show 55 ∉ ([78, 80] : List Nat) by decide)).trans k55
  have k56 := (hni 56 (show 56 ∉ ([78, 80] : List Nat) by decide)).trans k56
  have k57 := (hni 57 (show 57 ∉ ([78, 80] : List Nat) by decide)).trans k57
  have k58 := (hni 58 (show 58 ∉ ([78, 80] : List Nat) by decide)).trans k58
  have k59 := (hni 59 (show 59 ∉ ([78, 80] : List Nat) by decide)).trans k59
  have k60 := (hni 60 (show 60 ∉ ([78, 80] : List Nat) by decide)).trans k60
  have k61 := (hni 61 (show 61 ∉ ([78, 80] : List Nat) by decide)).trans k61
  have k62 := (hni 62 (show 62 ∉ ([78, 80] : List Nat) by decide)).trans k62
  have k63 := (hni 63 (show 63 ∉ ([78, 80] : List Nat) by decide)).trans k63
  have k64 := (hni 64 (show 64 ∉ ([78, 80] : List Nat) by decide)).trans k64
  have k65 := (hni 65 (show 65 ∉ ([78, 80] : List Nat) by decide)).trans k65
  have k66 := (hni 66 (show 66 ∉ ([78, 80] : List Nat) by decide)).trans k66
  have k67 := (hni 67 (show 67 ∉ ([78, 80] : List Nat) by decide)).trans k67
  have k68 := (hni 68 (show 68 ∉ ([78, 80] : List Nat) by decide)).trans k68
  have k69 := (hni 69 (show 69 ∉ ([78, 80] : List Nat) by decide)).trans k69
  have k70 := (hni 70 (show 70 ∉ ([78, 80] : List Nat) by decide)).trans k70
  have k71 := (hni 71 (show 71 ∉ ([78, 80] : List Nat) by decide)).trans k71
  have k72 := (hni 72 (show 72 ∉ ([78, 80] : List Nat) by decide)).trans k72
  have k73 := (hni 73 (show 73 ∉ ([78, 80] : List Nat) by decide)).trans k73
  have k74 := (hni 74 (show 74 ∉ ([78, 80] : List Nat) by decide)).trans k74
  have k75 := (hni 75 (show 75 ∉ ([78, 80] : List Nat) by decide)).trans k75
  have k76 := (hni 76 (show 76 ∉ ([78, 80] : List Nat) by decide)).trans k76
  have k77 := (hni 77 (show 77 ∉ ([78, 80] : List Nat) by decide)).trans k77
  have k78 := (congrFun e2 78).trans (asg_at 0 hnM rfl rfl)
  have k79 := (hni 79 (show 79 ∉ ([78, 80] : List Nat) by decide)).trans k79
  have k80 := (congrFun e2 80).trans (asg_at 1 hnM rfl rfl)
  have k81 := (hni 81 (show 81 ∉ ([78, 80] : List Nat) by decide)).trans k81
  have k82 := (hni 82 (show 82 ∉ ([78, 80] : List Nat) by decide)).trans k82
  have k83 := (hni 83 (show 83 ∉ ([78, 80] : List Nat) by decide)).trans k83
  refine lv_icmp_eq (tgt := 1060) hx hb dL_law_969 (by decide) (fun c_ => ?_) (fun c_ => absurd h.1 c_)
  exact next H locs ⟨ce2, _, _, _, _, _, _, _, _, _, _, _, _, _, _, _, _, _, _, _, _, _, _, _, _, _, _, _, _, _, _, ⟨k0, k1, k2⟩, kS, kY, kT, kJ, kF, kR, kL, ⟨_, _, k54, k55, k56, k57⟩, ⟨_, _, _, _, _, _, _, _, _, _, _, _, _, _, _, k58, k59, k60, k61, k62, k63, k64, k65, k66, k67, k68, k69, k70, k71, k72, k73, k74, k75, k76, k77, k78, k79, k80, k81, k82, k83⟩, h.2, hP, hD, hS⟩ ls hl
