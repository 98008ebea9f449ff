set_option maxHeartbeats 4000000 in
set_option maxRecDepth 20000 in
theorem law_lines {p : Program} {l : Launch} {e : Env} {s : State} {m : MethodId} {below : List Frame} {meth : Method} {c : Code} {b L : Nat} {xs : Nat → Int32} {A : Nat → Prop} {Qf : State → Prop} {D : va_G} {cy : Nat → ClassId} {q : Nat → Nat} {gS gY gF : Nat → Option Nat} (hx : p.tables.exec = Jvm.exec) (hb : c.code = cL_law) (hml : c.maxLocals = 4) (hown : s.vm.findClass RL = some m.cls) (hts : ∀ w ∈ wsL_law, w.before #[Value.ref b] s = true) (hKK : py_K D cy s) (hX : va_X b L xs s s.heap) (hbl : b < s.heap.size) (hbA : ¬ A b) (hA : ∀ q : Nat, s.heap.size ≤ q → A q) (hgS : ∀ t, t < 4 → gS t = some (q (3 + 2 * t))) (hgY : ∀ t, t < 2 → gY t = some (q (11 + 10 * t))) (hgF0 : gF 0 = some (q 41)) (hgF1 : gF 1 = some (q 42)) (hgF2 : gF 2 = some (q 43)) (j : Nat) (hj : j + 6 ≤ L) (hL : L ≤ 3072) (H : Heap) (locs : List Loc) (hw : LWd D cy q gS gY gF A s H locs) (ls : Array Slot) (hl : lv_has ls 4 [(0, .ref b), (1, .ref (q 0)), (2, .ref (q 58)), (3, .int (nI j))])
    (next : ∀ (H : Heap) (locs : List Loc), LWd D cy q gS gY gF A s H locs → ∀ (ls : Array Slot), lv_has ls 4 [(0, .ref b), (1, .ref (q 0)), (2, .ref (q 58)), (3, .int (nI j))] → W p l e room_1 s m #[Value.ref b] below meth c H locs 600000 7302250 Qf (F0 m 1060 ls [])) : W p l e room_1 s m #[Value.ref b] below meth c H locs 600000 7302250 Qf (F0 m 882 ls []) := by
  obtain ⟨ce, lane, size, items, ysz, yx, yy, yz, yst, ykd, ybh, yrd, ysh, ylo, tn, tb, mla, msi, mit, mma, mpx, mpy, mpz, mst, mkd, mbh, mrd, mlo, msh, mtp, mtd, kX, kS, kY, kT, kJ, kF, kR, kL, kG, kM, hR, hP, hD, hS⟩ := hw
  have i1 := py_ix (k := 1) (y := (1 : Int32)) hj hL (by decide) (by decide)
  have i2 := py_ix (k := 2) (y := (2 : Int32)) hj hL (by decide) (by decide)
  have i3 := py_ix (k := 3) (y := (3 : Int32)) hj hL (by decide) (by decide)
  obtain ⟨k0, k1, k2⟩ := kX
  obtain ⟨lse, lqu, lqd, k51, k52, k53⟩ := kL
  obtain ⟨gr1, gr2, k54, k55, k56, k57⟩ := kG
  obtain ⟨msp, mmx, mri, mfo, mhi, mne, mce, mpa, mbe, mwh, mnu, mhs, mat, mfa, mss, k58, k59, k60, k61, k62, k63, k64, k65, k66, k67, k68, k69, k70, k71, k72, k73, k74, k75, k76, k77, k78, k79, k80, k81, k82, k83⟩ := kM
  have h : lw_lines lane size items ysz yx yy yz yst ykd ybh yrd ysh ylo tn tb mla msi mit mma mpx mpy mpz mst mkd mbh mrd mlo msh mtp mtd lse lqu lqd gr1 mce mpa (xs (j + 1)) (xs (j + 2)) (xs (j + 3)) RR := t_lines hR lse lqu lqd gr1 mce mpa (xs (j + 1)) (xs (j + 2)) (xs (j + 3))
  unfold lw_lines at h
  obtain ⟨w_yr, hw_w_yr, h⟩ := h
  by_cases hz : xs (j + 3) = 0
  · have h := h.1 hz
    refine lv_aload_n hx hb dL_law_882 rfl (lv_at hl 1 rfl) ?_
    refine lv_aload_n hx hb dL_law_883 rfl (lv_at hl 0 rfl) ?_
    refine lv_iload_n hx hb dL_law_884 rfl (lv_at hl 3 rfl) ?_
    refine lv_iconst (v := (1 : Int32)) hx hb dL_law_885 (by decide) ?_
    refine lv_iadd hx hb dL_law_886 ?_
    refine py_sld hx hb hX hbl hbA hS (k := j + 1) i1.1 i1.2 dL_law_887 ?_
    refine lv_aload_n hx hb dL_law_888 rfl (lv_at hl 0 rfl) ?_
    refine lv_iload_n hx hb dL_law_889 rfl (lv_at hl 3 rfl) ?_
    refine lv_iconst (v := (2 : Int32)) hx hb dL_law_890 (by decide) ?_
    refine lv_iadd hx hb dL_law_891 ?_
    refine py_sld hx hb hX hbl hbA hS (k := j + 2) i2.1 i2.2 dL_law_892 ?_
    refine lv_aload_n hx hb dL_law_893 rfl (lv_at hl 0 rfl) ?_
    refine lv_iload_n hx hb dL_law_894 rfl (lv_at hl 3 rfl) ?_
    refine lv_iconst (v := (3 : Int32)) hx hb dL_law_895 (by decide) ?_
    refine lv_iadd hx hb dL_law_896 ?_
    refine py_sld hx hb hX hbl hbA hS (k := j + 3) i3.1 i3.2 dL_law_897 ?_
    refine lv_if_eq (tgt := 905) hx hb dL_law_898 (by decide) (fun c_ => ?_) (fun c_ => absurd hz c_)
    refine lv_iconst (v := (0 : Int32)) hx hb dL_law_905 (by decide) ?_
    have hnM : ([55, 51, 52, 53] : List Nat).Nodup := show ([55, 51, 52, 53] : List Nat).Nodup by decide
    refine fw_wi (T := (Nat → Int32) × Int32 × (Nat → Int32) × (Nat → Int32)) (As := [.int (xs (j + 1)), .int (xs (j + 2)), .int (0 : Int32)]) ⟨hx, hb, hml, hown, hts⟩ hKK hP hD hS hA [0, 2, (11 + 10 * w_yr), 54, 55, (16 + 10 * w_yr), (12 + 10 * w_yr), (13 + 10 * w_yr), (14 + 10 * w_yr), (15 + 10 * w_yr), (19 + 10 * w_yr), 51, 52, 53] ((show ∀ w_yr : Nat, w_yr < 2 → ∀ i ∈ ([0, 2, (11 + 10 * w_yr), 54, 55, (16 + 10 * w_yr), (12 + 10 * w_yr), (13 + 10 * w_yr), (14 + 10 * w_yr), (15 + 10 * w_yr), (19 + 10 * w_yr), 51, 52, 53] : List Nat), i < 84 by decide) w_yr hw_w_yr) ((show ∀ w_yr : Nat, w_yr < 2 → ([0, 2, (11 + 10 * w_yr), 54, 55, (16 + 10 * w_yr), (12 + 10 * w_yr), (13 + 10 * w_yr), (14 + 10 * w_yr), (15 + 10 * w_yr), (19 + 10 * w_yr), 51, 52, 53] : List Nat).Nodup by decide) w_yr hw_w_yr) (vs := [.inr (8, [.ref (q 1), .ref (q 2), .ref (q 31), .ref (q 33), .ref (q 38), .ref (q 46), .ref (q 51), .ref (q 54), .ref (q 56)]), .inl (cy 5, (2, .inr (.inr (.inr (.inr gY))))), .inr (7, [.ref (q (12 + 10 * w_yr)), .ref (q (13 + 10 * w_yr)), .ref (q (14 + 10 * w_yr)), .ref (q (15 + 10 * w_yr)), .ref (q (16 + 10 * w_yr)), .ref (q (17 + 10 * w_yr)), .ref (q (18 + 10 * w_yr)), .ref (q (19 + 10 * w_yr)), .ref (q (20 + 10 * w_yr)), .int (ysz w_yr)]), .inr (1, [.ref (q 55)]), .inl (cy 0, (256, .inl gr1)), .inl (cy 0, (100, .inl (ykd w_yr))), .inl (cy 0, (100, .inl (yx w_yr))), .inl (cy 0, (100, .inl (yy w_yr))), .inl (cy 0, (100, .inl (yz w_yr))), .inl (cy 0, (100, .inl (yst w_yr))), .inl (cy 0, (4, .inl (ysh w_yr))), .inr (3, [.ref (q 52), .ref (q 53), .int lqd]), .inl (cy 1, (450, .inl lse)), .inl (cy 0, (450, .inl lqu))]) (lc k0 (lc k2 (lc (kY w_yr hw_w_yr).1 (lc k54 (lc k55 (lc (kY w_yr hw_w_yr).2.2.2.2.2.1 (lc (kY w_yr hw_w_yr).2.1 (lc (kY w_yr hw_w_yr).2.2.1 (lc (kY w_yr hw_w_yr).2.2.2.1 (lc (kY w_yr hw_w_yr).2.2.2.2.1 (lc (kY w_yr hw_w_yr).2.2.2.2.2.2.2.2.1 (lc k51 (lc k52 (lc k53 rfl)))))))))))))) rfl 0 8 (by decide) rfl k0 [55, 51, 52, 53] ((show ∀ w_yr : Nat, w_yr < 2 → ∀ i ∈ ([55, 51, 52, 53] : List Nat), i ∈ ([0, 2, (11 + 10 * w_yr), 54, 55, (16 + 10 * w_yr), (12 + 10 * w_yr), (13 + 10 * w_yr), (14 + 10 * w_yr), (15 + 10 * w_yr), (19 + 10 * w_yr), 51, 52, 53] : List Nat) by decide) w_yr hw_w_yr) (fun (u : (Nat → Int32) × Int32 × (Nat → Int32) × (Nat → Int32)) => [.inl (cy 0, (256, .inl u.1)), .inr (3, [.ref (q 52), .ref (q 53), .int u.2.1]), .inl (cy 1, (450, .inl u.2.2.1)), .inl (cy 0, (450, .inl u.2.2.2))]) (fun (u : (Nat → Int32) × Int32 × (Nat → Int32) × (Nat → Int32)) => [.inr (8, [.ref (q 1), .ref (q 2), .ref (q 31), .ref (q 33), .ref (q 38), .ref (q 46), .ref (q 51), .ref (q 54), .ref (q 56)]), .inl (cy 5, (2, .inr (.inr (.inr (.inr gY))))), .inr (7, [.ref (q (12 + 10 * w_yr)), .ref (q (13 + 10 * w_yr)), .ref (q (14 + 10 * w_yr)), .ref (q (15 + 10 * w_yr)), .ref (q (16 + 10 * w_yr)), .ref (q (17 + 10 * w_yr)), .ref (q (18 + 10 * w_yr)), .ref (q (19 + 10 * w_yr)), .ref (q (20 + 10 * w_yr)), .int (ysz w_yr)]), .inr (1, [.ref (q 55)]), .inl (cy 0, (256, .inl u.1)), .inl (cy 0, (100, .inl (ykd w_yr))), .inl (cy 0, (100, .inl (yx w_yr))), .inl (cy 0, (100, .inl (yy w_yr))), .inl (cy 0, (100, .inl (yz w_yr))), .inl (cy 0, (100, .inl (yst w_yr))), .inl (cy 0, (4, .inl (ysh w_yr))), .inr (3, [.ref (q 52), .ref (q 53), .int u.2.1]), .inl (cy 1, (450, .inl u.2.2.1)), .inl (cy 0, (450, .inl u.2.2.2))]) (fun u => (lc ((asg_out (show 0 ∉ ([55, 51, 52, 53] : List Nat) by decide)).trans k0) (lc ((asg_out (show 2 ∉ ([55, 51, 52, 53] : List Nat) by decide)).trans k2) (lc ((asg_out ((show ∀ w_yr : Nat, w_yr < 2 → (11 + 10 * w_yr) ∉ ([55, 51, 52, 53] : List Nat) by decide) w_yr hw_w_yr)).trans (kY w_yr hw_w_yr).1) (lc ((asg_out (show 54 ∉ ([55, 51, 52, 53] : List Nat) by decide)).trans k54) (lc (asg_at 0 hnM rfl rfl) (lc ((asg_out ((show ∀ w_yr : Nat, w_yr < 2 → (16 + 10 * w_yr) ∉ ([55, 51, 52, 53] : List Nat) by decide) w_yr hw_w_yr)).trans (kY w_yr hw_w_yr).2.2.2.2.2.1) (lc ((asg_out ((show ∀ w_yr : Nat, w_yr < 2 → (12 + 10 * w_yr) ∉ ([55, 51, 52, 53] : List Nat) by decide) w_yr hw_w_yr)).trans (kY w_yr hw_w_yr).2.1) (lc ((asg_out ((show ∀ w_yr : Nat, w_yr < 2 → (13 + 10 * w_yr) ∉ ([55, 51, 52, 53] : List Nat) by decide) w_yr hw_w_yr)).trans (kY w_yr hw_w_yr).2.2.1) (lc ((asg_out ((show ∀ w_yr : Nat, w_yr < 2 → (14 + 10 * w_yr) ∉ ([55, 51, 52, 53] : List Nat) by decide) w_yr hw_w_yr)).trans (kY w_yr hw_w_yr).2.2.2.1) (lc ((asg_out ((show ∀ w_yr : Nat, w_yr < 2 → (15 + 10 * w_yr) ∉ ([55, 51, 52, 53] : List Nat) by decide) w_yr hw_w_yr)).trans (kY w_yr hw_w_yr).2.2.2.2.1) (lc ((asg_out ((show ∀ w_yr : Nat, w_yr < 2 → (19 + 10 * w_yr) ∉ ([55, 51, 52, 53] : List Nat) by decide) w_yr hw_w_yr)).trans (kY w_yr hw_w_yr).2.2.2.2.2.2.2.2.1) (lc (asg_at 1 hnM rfl rfl) (lc (asg_at 2 hnM rfl rfl) (lc (asg_at 3 hnM rfl rfl) rfl))))))))))))))) (fun _ => rfl) (c_X8_lines l D cy (q 1) (q 2) (q 31) (q 33) (q 38) (q 46) (q 51) (q 54) (q 56) (q 0) (q (12 + 10 * w_yr)) (q (13 + 10 * w_yr)) (q (14 + 10 * w_yr)) (q (15 + 10 * w_yr)) (q (16 + 10 * w_yr)) (q (17 + 10 * w_yr)) (q (18 + 10 * w_yr)) (q (19 + 10 * w_yr)) (q (20 + 10 * w_yr)) (q (11 + 10 * w_yr)) (q 55) (q 52) (q 53) gY w_yr (hgY w_yr hw_w_yr) (ysz w_yr) gr1 (ykd w_yr) (yx w_yr) (yy w_yr) (yz w_yr) (yst w_yr) (ysh w_yr) lqd lse lqu (xs (j + 1)) (xs (j + 2)) (0 : Int32) H.size _ h) (cwV 3 hts gL_law_X8_lines rfl rfl rfl cdv_X8_lines ⟨Nat.le_of_ble_eq_true rfl, Nat.le_of_ble_eq_true rfl⟩) rfl hl.1 rfl (Nat.le_of_ble_eq_true rfl) ⟨Nat.le_refl _, Nat.le_refl _⟩ dL_law_906 (fun r_1 u H locs h hP hD hS => ?_)
    obtain ⟨c_2, c_3, c_4, c_5⟩ := u
    try dsimp only at h
    obtain ⟨ce1, e1⟩ : ∃ z : Nat → va_E, z = asg [55, 51, 52, 53] [.inl (cy 0, (256, .inl c_2)), .inr (3, [.ref (q 52), .ref (q 53), .int c_3]), .inl (cy 1, (450, .inl c_4)), .inl (cy 0, (450, .inl c_5))] ce := ⟨_, rfl⟩
    have hP : va_P D vwCl (fw q ce1) H := by rw [e1]; exact hP
    have hD : va_D A (fw q ce1) := by rw [e1]; exact hD
    have hni : ∀ k, k ∉ ([55, 51, 52, 53] : List Nat) → ce1 k = ce k := fun k hk => (congrFun e1 k).trans (asg_out hk)
    have hm58 : ∀ k, 58 ≤ k → k ∉ ([55, 51, 52, 53] : List Nat) := by intro k hk; simp only [List.mem_cons, List.not_mem_nil, or_false]; omega
    have k0 := (hni 0 (show 0 ∉ ([55, 51, 52, 53] : List Nat) by decide)).trans k0
    have k1 := (hni 1 (show 1 ∉ ([55, 51, 52, 53] : List Nat) by decide)).trans k1
    have k2 := (hni 2 (show 2 ∉ ([55, 51, 52, 53] : List Nat) by decide)).trans k2
    have kS := gSh.mono (fun k h1 h2 => hni k (by simp only [List.mem_cons, List.not_mem_nil, or_false]; omega)) kS
    have kY := gYr.mono (fun k h1 h2 => hni k (by simp only [List.mem_cons, List.not_mem_nil, or_false]; omega)) kY
    have kT := gTp.mono (fun k h1 h2 => hni k (by simp only [List.mem_cons, List.not_mem_nil, or_false]; omega)) kT
    have kJ := gJt.mono (fun k h1 h2 => hni k (by simp only [List.mem_cons, List.not_mem_nil, or_false]; omega)) kJ
    have kF := gFi.mono (fun k h1 h2 => hni k (by simp only [List.mem_cons, List.not_mem_nil, or_false]; omega)) kF
    have kR := gRo.mono (fun k h1 h2 => hni k (by simp only [List.mem_cons, List.not_mem_nil, or_false]; omega)) kR
    have k51 := (congrFun e1 51).trans (asg_at 1 hnM rfl rfl)
    have k52 := (congrFun e1 52).trans (asg_at 2 hnM rfl rfl)
    have k53 := (congrFun e1 53).trans (asg_at 3 hnM rfl rfl)
    have k54 := (hni 54 (show 54 ∉ ([55, 51, 52, 53] : List Nat) by decide)).trans k54
    have k55 := (congrFun e1 55).trans (asg_at 0 hnM rfl rfl)
    have k56 := (hni 56 (show 56 ∉ ([55, 51, 52, 53] : List Nat) by decide)).trans k56
    have k57 := (hni 57 (show 57 ∉ ([55, 51, 52, 53] : List Nat) by decide)).trans k57
    have k58 := (hni 58 (hm58 58 (by decide))).trans k58
    have k59 := (hni 59 (hm58 59 (by decide))).trans k59
    have k60 := (hni 60 (hm58 60 (by decide))).trans k60
    have k61 := (hni 61 (hm58 61 (by decide))).trans k61
    have k62 := (hni 62 (hm58 62 (by decide))).trans k62
    have k63 := (hni 63 (hm58 63 (by decide))).trans k63
    have k64 := (hni 64 (hm58 64 (by decide))).trans k64
    have k65 := (hni 65 (hm58 65 (by decide))).trans k65
    have k66 := (hni 66 (hm58 66 (by decide))).trans k66
    have k67 := (hni 67 (hm58 67 (by decide))).trans k67
    have k68 := (hni 68 (hm58 68 (by decide))).trans k68
    have k69 := (hni 69 (hm58 69 (by decide))).trans k69
    have k70 := (hni 70 (hm58 70 (by decide))).trans k70
    have k71 := (hni 71 (hm58 71 (by decide))).trans k71
    have k72 := (hni 72 (hm58 72 (by decide))).trans k72
    have k73 := (hni 73 (hm58 73 (by decide))).trans k73
    have k74 := (hni 74 (hm58 74 (by decide))).trans k74
    have k75 := (hni 75 (hm58 75 (by decide))).trans k75
    have k76 := (hni 76 (hm58 76 (by decide))).trans k76
    have k77 := (hni 77 (hm58 77 (by decide))).trans k77
    have k78 := (hni 78 (hm58 78 (by decide))).trans k78
    have k79 := (hni 79 (hm58 79 (by decide))).trans k79
    have k80 := (hni 80 (hm58 80 (by decide))).trans k80
    have k81 := (hni 81 (hm58 81 (by decide))).trans k81
    have k82 := (hni 82 (hm58 82 (by decide))).trans k82
    have k83 := (hni 83 (hm58 83 (by decide))).trans k83
    refine lv_aload_n hx hb dL_law_909 rfl (lv_at hl 2 rfl) ?_
    refine lv_aload_n hx hb dL_law_910 rfl (lv_at hl 0 rfl) ?_
    refine lv_iload_n hx hb dL_law_911 rfl (lv_at hl 3 rfl) ?_
    refine lv_iconst (v := (1 : Int32)) hx hb dL_law_912 (by decide) ?_
    refine lv_iadd hx hb dL_law_913 ?_
    refine py_sld hx hb hX hbl hbA hS (k := j + 1) i1.1 i1.2 dL_law_914 ?_
    refine lv_aload_n hx hb dL_law_915 rfl (lv_at hl 0 rfl) ?_
    refine lv_iload_n hx hb dL_law_916 rfl (lv_at hl 3 rfl) ?_
    refine lv_iconst (v := (2 : Int32)) hx hb dL_law_917 (by decide) ?_
    refine lv_iadd hx hb dL_law_918 ?_
    refine py_sld hx hb hX hbl hbA hS (k := j + 2) i2.1 i2.2 dL_law_919 ?_
    refine lv_aload_n hx hb dL_law_920 rfl (lv_at hl 0 rfl) ?_
    refine lv_iload_n hx hb dL_law_921 rfl (lv_at hl 3 rfl) ?_
    refine lv_iconst (v := (3 : Int32)) hx hb dL_law_922 (by decide) ?_
    refine lv_iadd hx hb dL_law_923 ?_
    refine py_sld hx hb hX hbl hbA hS (k := j + 3) i3.1 i3.2 dL_law_924 ?_
    refine lv_if_eq (tgt := 932) hx hb dL_law_925 (by decide) (fun c_ => ?_) (fun c_ => absurd hz c_)
    refine lv_iconst (v := (0 : Int32)) hx hb dL_law_932 (by decide) ?_
    have hnM : ([78, 79] : List Nat).Nodup := show ([78, 79] : List Nat).Nodup by decide
    refine fw_wi (T := (Nat → Int32) × (Nat → Int32)) (As := [.int (xs (j + 1)), .int (xs (j + 2)), .int (0 : Int32)]) ⟨hx, hb, hml, hown, hts⟩ hKK hP hD hS hA [58, 78, 63, 64, 65, 66, 67, 72, 68, 79] (show ∀ i ∈ ([58, 78, 63, 64, 65, 66, 67, 72, 68, 79] : List Nat), i < 84 by decide) (show ([58, 78, 63, 64, 65, 66, 67, 72, 68, 79] : List Nat).Nodup by decide) (vs := [.inr (9, [.ref (q 59), .ref (q 60), .ref (q 61), .ref (q 62), .ref (q 63), .ref (q 64), .ref (q 65), .ref (q 66), .ref (q 67), .ref (q 68), .ref (q 69), .ref (q 70), .ref (q 71), .ref (q 72), .ref (q 73), .ref (q 74), .ref (q 75), .ref (q 76), .int mhs, .ref (q 77), .ref (q 78), .ref (q 79), .ref (q 80), .ref (q 81), .int mtd, .int mat, .int mfa, .int mss, .ref (q 82), .ref (q 83)]), .inl (cy 0, (256, .inl mce)), .inl (cy 0, (2, .inl mma)), .inl (cy 0, (200, .inl mpx)), .inl (cy 0, (200, .inl mpy)), .inl (cy 0, (200, .inl mpz)), .inl (cy 0, (200, .inl mst)), .inl (cy 0, (8, .inl msh)), .inl (cy 0, (200, .inl mkd)), .inl (cy 0, (450, .inl mpa))]) (lc k58 (lc k78 (lc k63 (lc k64 (lc k65 (lc k66 (lc k67 (lc k72 (lc k68 (lc k79 rfl)))))))))) rfl 58 9 (by decide) rfl k58 [78, 79] (show ∀ i ∈ ([78, 79] : List Nat), i ∈ ([58, 78, 63, 64, 65, 66, 67, 72, 68, 79] : List Nat) by decide) (fun (u : (Nat → Int32) × (Nat → Int32)) => [.inl (cy 0, (256, .inl u.1)), .inl (cy 0, (450, .inl u.2))]) (fun (u : (Nat → Int32) × (Nat → Int32)) => [.inr (9, [.ref (q 59), .ref (q 60), .ref (q 61), .ref (q 62), .ref (q 63), .ref (q 64), .ref (q 65), .ref (q 66), .ref (q 67), .ref (q 68), .ref (q 69), .ref (q 70), .ref (q 71), .ref (q 72), .ref (q 73), .ref (q 74), .ref (q 75), .ref (q 76), .int mhs, .ref (q 77), .ref (q 78), .ref (q 79), .ref (q 80), .ref (q 81), .int mtd, .int mat, .int mfa, .int mss, .ref (q 82), .ref (q 83)]), .inl (cy 0, (256, .inl u.1)), .inl (cy 0, (2, .inl mma)), .inl (cy 0, (200, .inl mpx)), .inl (cy 0, (200, .inl mpy)), .inl (cy 0, (200, .inl mpz)), .inl (cy 0, (200, .inl mst)), .inl (cy 0, (8, .inl msh)), .inl (cy 0, (200, .inl mkd)), .inl (cy 0, (450, .inl u.2))]) (fun u => (lc ((asg_out (show 58 ∉ ([78, 79] : List Nat) by decide)).trans k58) (lc (asg_at 0 hnM rfl rfl) (lc ((asg_out (show 63 ∉ ([78, 79] : List Nat) by decide)).trans k63) (lc ((asg_out (show 64 ∉ ([78, 79] : List Nat) by decide)).trans k64) (lc ((asg_out (show 65 ∉ ([78, 79] : List Nat) by decide)).trans k65) (lc ((asg_out (show 66 ∉ ([78, 79] : List Nat) by decide)).trans k66) (lc ((asg_out (show 67 ∉ ([78, 79] : List Nat) by decide)).trans k67) (lc ((asg_out (show 72 ∉ ([78, 79] : List Nat) by decide)).trans k72) (lc ((asg_out (show 68 ∉ ([78, 79] : List Nat) by decide)).trans k68) (lc (asg_at 1 hnM rfl rfl) rfl))))))))))) (fun _ => rfl) (c_X9_lines l D cy (q 59) (q 60) (q 61) (q 62) (q 63) (q 64) (q 65) (q 66) (q 67) (q 68) (q 69) (q 70) (q 71) (q 72) (q 73) (q 74) (q 75) (q 76) (q 77) (q 78) (q 79) (q 80) (q 81) (q 82) (q 83) (q 58) mhs mtd mat mfa mss mce mma mpx mpy mpz mst msh mkd mpa (xs (j + 1)) (xs (j + 2)) (0 : Int32) H.size _ h) (cwV 3 hts gL_law_X9_lines rfl rfl rfl cdv_X9_lines ⟨Nat.le_of_ble_eq_true rfl, Nat.le_of_ble_eq_true rfl⟩) rfl hl.1 rfl (Nat.le_of_ble_eq_true rfl) ⟨Nat.le_refl _, Nat.le_refl _⟩ dL_law_933 (fun r_6 u H locs h hP hD hS => ?_)
    obtain ⟨c_7, c_8⟩ := u
    try dsimp only at h
    obtain ⟨ce2, e2⟩ : ∃ z : Nat → va_E, z = asg [78, 79] [.inl (cy 0, (256, .inl c_7)), .inl (cy 0, (450, .inl c_8))] ce1 := ⟨_, rfl⟩
    have hP : va_P D vwCl (fw q ce2) H := by rw [e2]; exact hP
    have hD : va_D A (fw q ce2) := by rw [e2]; exact hD
    have hni : ∀ k, k ∉ ([78, 79] : List Nat) → ce2 k = ce1 k := fun k hk => (congrFun e2 k).trans (asg_out hk)
    have k0 := (hni 0 (show 0 ∉ ([78, 79] : List Nat) by decide)).trans k0
    have k1 := (hni 1 (show 1 ∉ ([78, 79] : List Nat) by decide)).trans k1
    have k2 := (hni 2 (show 2 ∉ ([78, 79] : List Nat) by decide)).trans k2
    have kS := gSh.mono (fun k h1 h2 => hni k (by simp only [List.mem_cons, List.not_mem_nil, or_false]; omega)) kS
    have kY := gYr.mono (fun k h1 h2 => hni k (by simp only [List.mem_cons, List.not_mem_nil, or_false]; omega)) kY
    have kT := gTp.mono (fun k h1 h2 => hni k (by simp only [List.mem_cons, List.not_mem_nil, or_false]; omega)) kT
    have kJ := gJt.mono (fun k h1 h2 => hni k (by simp only [List.mem_cons, List.not_mem_nil, or_false]; omega)) kJ
    have kF := gFi.mono (fun k h1 h2 => hni k (by simp only [List.mem_cons, List.not_mem_nil, or_false]; omega)) kF
    have kR := gRo.mono (fun k h1 h2 => hni k (by simp only [List.mem_cons, List.not_mem_nil, or_false]; omega)) kR
    have k51 := (hni 51 (show 51 ∉ ([78, 79] : List Nat) by decide)).trans k51
    have k52 := (hni 52 (show 52 ∉ ([78, 79] : List Nat) by decide)).trans k52
    have k53 := (hni 53 (show 53 ∉ ([78, 79] : List Nat) by decide)).trans k53
    have k54 := (hni 54 (show 54 ∉ ([78, 79] : List Nat) by decide)).trans k54
    have k55 := (hni 55 (show 55 ∉ ([78, 79] : List Nat) by decide)).trans k55
    have k56 := (hni 56 (show 56 ∉ ([78, 79] : List Nat) by decide)).trans k56
    have k57 := (hni 57 (show 57 ∉ ([78, 79] : List Nat) by decide)).trans k57
    have k58 := (hni 58 (show 58 ∉ ([78, 79] : List Nat) by decide)).trans k58
    have k59 := (hni 59 (show 59 ∉ ([78, 79] : List Nat) by decide)).trans k59
    have k60 := (hni 60 (show 60 ∉ ([78, 79] : List Nat) by decide)).trans k60
    have k61 := (hni 61 (show 61 ∉ ([78, 79] : List Nat) by decide)).trans k61
    have k62 := (hni 62 (show 62 ∉ ([78, 79] : List Nat) by decide)).trans k62
    have k63 := (hni 63 (show 63 ∉ ([78, 79] : List Nat) by decide)).trans k63
    have k64 := (hni 64 (show 64 ∉ ([78, 79] : List Nat) by decide)).trans k64
    have k65 := (hni 65 (show 65 ∉ ([78, 79] : List Nat) by decide)).trans k65
    have k66 := (hni 66 (show 66 ∉ ([78, 79] : List Nat) by decide)).trans k66
    have k67 := (hni 67 (show 67 ∉ ([78, 79] : List Nat) by decide)).trans k67
    have k68 := (hni 68 (show 68 ∉ ([78, 79] : List Nat) by decide)).trans k68
    have k69 := (hni 69 (show 69 ∉ ([78, 79] : List Nat) by decide)).trans k69
    have k70 := (hni 70 (show 70 ∉ ([78, 79] : List Nat) by decide)).trans k70
    have k71 := (hni 71 (show 71 ∉ ([78, 79] : List Nat) by decide)).trans k71
    have k72 := (hni 72 (show 72 ∉ ([78, 79] : List Nat) by decide)).trans k72
    have k73 := (hni 73 (show 73 ∉ ([78, 79] : List Nat) by decide)).trans k73
    have k74 := (hni 74 (show 74 ∉ ([78, 79] : List Nat) by decide)).trans k74
    have k75 := (hni 75 (show 75 ∉ ([78, 79] : List Nat) by decide)).trans k75
    have k76 := (hni 76 (show 76 ∉ ([78, 79] : List Nat) by decide)).trans k76
    have k77 := (hni 77 (show 77 ∉ ([78, 79] : List Nat) by decide)).trans k77
    have k78 := (congrFun e2 78).trans (asg_at 0 hnM rfl rfl)
    have k79 := (congrFun e2 79).trans (asg_at 1 hnM rfl rfl)
    have k80 := (hni 80 (show 80 ∉ ([78, 79] : List Nat) by decide)).trans k80
    have k81 := (hni 81 (show 81 ∉ ([78, 79] : List Nat) by decide)).trans k81
    have k82 := (hni 82 (show 82 ∉ ([78, 79] : List Nat) by decide)).trans k82
    have k83 := (hni 83 (show 83 ∉ ([78, 79] : List Nat) by decide)).trans k83
    refine lv_icmp_eq (tgt := 1060) hx hb dL_law_936 (by decide) (fun c_ => ?_) (fun c_ => absurd h.1 c_)
    exact next H locs ⟨ce2, _, _, _, _, _, _, _, _, _, _, _, _, _, _, _, _, _, _, _, _, _, _, _, _, _, _, _, _, _, _, ⟨k0, k1, k2⟩, kS, kY, kT, kJ, kF, kR, ⟨_, _, _, k51, k52, k53⟩, ⟨_, _, k54, k55, k56, k57⟩, ⟨_, _, _, _, _, _, _, _, _, _, _, _, _, _, _, k58, k59, k60, k61, k62, k63, k64, k65, k66, k67, k68, k69, k70, k71, k72, k73, k74, k75, k76, k77, k78, k79, k80, k81, k82, k83⟩, h.2, hP, hD, hS⟩ ls hl
  · have h := h.2 hz
    refine lv_aload_n hx hb dL_law_882 rfl (lv_at hl 1 rfl) ?_
    refine lv_aload_n hx hb dL_law_883 rfl (lv_at hl 0 rfl) ?_
    refine lv_iload_n hx hb dL_law_884 rfl (lv_at hl 3 rfl) ?_
    refine lv_iconst (v := (1 : Int32)) hx hb dL_law_885 (by decide) ?_
    refine lv_iadd hx hb dL_law_886 ?_
    refine py_sld hx hb hX hbl hbA hS (k := j + 1) i1.1 i1.2 dL_law_887 ?_
    refine lv_aload_n hx hb dL_law_888 rfl (lv_at hl 0 rfl) ?_
    refine lv_iload_n hx hb dL_law_889 rfl (lv_at hl 3 rfl) ?_
    refine lv_iconst (v := (2 : Int32)) hx hb dL_law_890 (by decide) ?_
    refine lv_iadd hx hb dL_law_891 ?_
    refine py_sld hx hb hX hbl hbA hS (k := j + 2) i2.1 i2.2 dL_law_892 ?_
    refine lv_aload_n hx hb dL_law_893 rfl (lv_at hl 0 rfl) ?_
    refine lv_iload_n hx hb dL_law_894 rfl (lv_at hl 3 rfl) ?_
    refine lv_iconst (v := (3 : Int32)) hx hb dL_law_895 (by decide) ?_
    refine lv_iadd hx hb dL_law_896 ?_
    refine py_sld hx hb hX hbl hbA hS (k := j + 3) i3.1 i3.2 dL_law_897 ?_
    refine lv_if_eq (tgt := 905) hx hb dL_law_898 (by decide) (fun c_ => absurd c_ hz) (fun c_ => ?_)
    refine lv_iconst (v := (1 : Int32)) hx hb dL_law_901 (by decide) ?_
    refine lv_goto (tgt := 906) hx hb dL_law_902 (by decide) ?_
    have hnM : ([55, 51, 52, 53] : List Nat).Nodup := show ([55, 51, 52, 53] : List Nat).Nodup by decide
    refine fw_wi (T := (Nat → Int32) × Int32 × (Nat → Int32) × (Nat → Int32)) (As := [.int (xs (j + 1)), .int (xs (j + 2)), .int (1 : Int32)]) ⟨hx, hb, hml, hown, hts⟩ hKK hP hD hS hA [0, 2, (11 + 10 * w_yr), 54, 55, (16 + 10 * w_yr), (12 + 10 * w_yr), (13 + 10 * w_yr), (14 + 10 * w_yr), (15 + 10 * w_yr), (19 + 10 * w_yr), 51, 52, 53] ((show ∀ w_yr : Nat, w_yr < 2 → ∀ i ∈ ([0, 2, (11 + 10 * w_yr), 54, 55, (16 + 10 * w_yr), (12 + 10 * w_yr), (13 + 10 * w_yr), (14 + 10 * w_yr), (15 + 10 * w_yr), (19 + 10 * w_yr), 51, 52, 53] : List Nat), i < 84 by decide) w_yr hw_w_yr) ((show ∀ w_yr : Nat, w_yr < 2 → ([0, 2, (11 + 10 * w_yr), 54, 55, (16 + 10 * w_yr), (12 + 10 * w_yr), (13 + 10 * w_yr), (14 + 10 * w_yr), (15 + 10 * w_yr), (19 + 10 * w_yr), 51, 52, 53] : List Nat).Nodup by decide) w_yr hw_w_yr) (vs := [.inr (8, [.ref (q 1), .ref (q 2), .ref (q 31), .ref (q 33), .ref (q 38), .ref (q 46), .ref (q 51), .ref (q 54), .ref (q 56)]), .inl (cy 5, (2, .inr (.inr (.inr (.inr gY))))), .inr (7, [.ref (q (12 + 10 * w_yr)), .ref (q (13 + 10 * w_yr)), .ref (q (14 + 10 * w_yr)), .ref (q (15 + 10 * w_yr)), .ref (q (16 + 10 * w_yr)), .ref (q (17 + 10 * w_yr)), .ref (q (18 + 10 * w_yr)), .ref (q (19 + 10 * w_yr)), .ref (q (20 + 10 * w_yr)), .int (ysz w_yr)]), .inr (1, [.ref (q 55)]), .inl (cy 0, (256, .inl gr1)), .inl (cy 0, (100, .inl (ykd w_yr))), .inl (cy 0, (100, .inl (yx w_yr))), .inl (cy 0, (100, .inl (yy w_yr))), .inl (cy 0, (100, .inl (yz w_yr))), .inl (cy 0, (100, .inl (yst w_yr))), .inl (cy 0, (4, .inl (ysh w_yr))), .inr (3, [.ref (q 52), .ref (q 53), .int lqd]), .inl (cy 1, (450, .inl lse)), .inl (cy 0, (450, .inl lqu))]) (lc k0 (lc k2 (lc (kY w_yr hw_w_yr).1 (lc k54 (lc k55 (lc (kY w_yr hw_w_yr).2.2.2.2.2.1 (lc (kY w_yr hw_w_yr).2.1 (lc (kY w_yr hw_w_yr).2.2.1 (lc (kY w_yr hw_w_yr).2.2.2.1 (lc (kY w_yr hw_w_yr).2.2.2.2.1 (lc (kY w_yr hw_w_yr).2.2.2.2.2.2.2.2.1 (lc k51 (lc k52 (lc k53 rfl)))))))))))))) rfl 0 8 (by decide) rfl k0 [55, 51, 52, 53] ((show ∀ w_yr : Nat, w_yr < 2 → ∀ i ∈ ([55, 51, 52, 53] : List Nat), i ∈ ([0, 2, (11 + 10 * w_yr), 54, 55, (16 + 10 * w_yr), (12 + 10 * w_yr), (13 + 10 * w_yr), (14 + 10 * w_yr), (15 + 10 * w_yr), (19 + 10 * w_yr), 51, 52, 53] : List Nat) by decide) w_yr hw_w_yr) (fun (u : (Nat → Int32) × Int32 × (Nat → Int32) × (Nat → Int32)) => [.inl (cy 0, (256, .inl u.1)), .inr (3, [.ref (q 52), .ref (q 53), .int u.2.1]), .inl (cy 1, (450, .inl u.2.2.1)), .inl (cy 0, (450, .inl u.2.2.2))]) (fun (u : (Nat → Int32) × Int32 × (Nat → Int32) × (Nat → Int32)) => [.inr (8, [.ref (q 1), .ref (q 2), .ref (q 31), .ref (q 33), .ref (q 38), .ref (q 46), .ref (q 51), .ref (q 54), .ref (q 56)]), .inl (cy 5, (2, .inr (.inr (.inr (.inr gY))))), .inr (7, [.ref (q (12 + 10 * w_yr)), .ref (q (13 + 10 * w_yr)), .ref (q (14 + 10 * w_yr)), .ref (q (15 + 10 * w_yr)), .ref (q (16 + 10 * w_yr)), .ref (q (17 + 10 * w_yr)), .ref (q (18 + 10 * w_yr)), .ref (q (19 + 10 * w_yr)), .ref (q (20 + 10 * w_yr)), .int (ysz w_yr)]), .inr (1, [.ref (q 55)]), .inl (cy 0, (256, .inl u.1)), .inl (cy 0, (100, .inl (ykd w_yr))), .inl (cy 0, (100, .inl (yx w_yr))), .inl (cy 0, (100, .inl (yy w_yr))), .inl (cy 0, (100, .inl (yz w_yr))), .inl (cy 0, (100, .inl (yst w_yr))), .inl (cy 0, (4, .inl (ysh w_yr))), .inr (3, [.ref (q 52), .ref (q 53), .int u.2.1]), .inl (cy 1, (450, .inl u.2.2.1)), .inl (cy 0, (450, .inl u.2.2.2))]) (fun u => (lc ((asg_out (show 0 ∉ ([55, 51, 52, 53] : List Nat) by decide)).trans k0) (lc ((asg_out (show 2 ∉ ([55, 51, 52, 53] : List Nat) by decide)).trans k2) (lc ((asg_out ((show ∀ w_yr : Nat, w_yr < 2 → (11 + 10 * w_yr) ∉ ([55, 51, 52, 53] : List Nat) by decide) w_yr hw_w_yr)).trans (kY w_yr hw_w_yr).1) (lc ((asg_out (show 54 ∉ ([55, 51, 52, 53] : List Nat) by decide)).trans k54) (lc (asg_at 0 hnM rfl rfl) (lc ((asg_out ((show ∀ w_yr : Nat, w_yr < 2 → (16 + 10 * w_yr) ∉ ([55, 51, 52, 53] : List Nat) by decide) w_yr hw_w_yr)).trans (kY w_yr hw_w_yr).2.2.2.2.2.1) (lc ((asg_out ((show ∀ w_yr : Nat, w_yr < 2 → (12 + 10 * w_yr) ∉ ([55, 51, 52, 53] : List Nat) by decide) w_yr hw_w_yr)).trans (kY w_yr hw_w_yr).2.1) (lc ((asg_out ((show ∀ w_yr : Nat, w_yr < 2 → (13 + 10 * w_yr) ∉ ([55, 51, 52, 53] : List Nat) by decide) w_yr hw_w_yr)).trans (kY w_yr hw_w_yr).2.2.1) (lc ((asg_out ((show ∀ w_yr : Nat, w_yr < 2 → (14 + 10 * w_yr) ∉ ([55, 51, 52, 53] : List Nat) by decide) w_yr hw_w_yr)).trans (kY w_yr hw_w_yr).2.2.2.1) (lc ((asg_out ((show ∀ w_yr : Nat, w_yr < 2 → (15 + 10 * w_yr) ∉ ([55, 51, 52, 53] : List Nat) by decide) w_yr hw_w_yr)).trans (kY w_yr hw_w_yr).2.2.2.2.1) (lc ((asg_out ((show ∀ w_yr : Nat, w_yr < 2 → (19 + 10 * w_yr) ∉ ([55, 51, 52, 53] : List Nat) by decide) w_yr hw_w_yr)).trans (kY w_yr hw_w_yr).2.2.2.2.2.2.2.2.1) (lc (asg_at 1 hnM rfl rfl) (lc (asg_at 2 hnM rfl rfl) (lc (asg_at 3 hnM rfl rfl) rfl))))))))))))))) (fun _ => rfl) (c_X8_lines l D cy (q 1) (q 2) (q 31) (q 33) (q 38) (q 46) (q 51) (q 54) (q 56) (q 0) (q (12 + 10 * w_yr)) (q (13 + 10 * w_yr)) (q (14 + 10 * w_yr)) (q (15 + 10 * w_yr)) (q (16 + 10 * w_yr)) (q (17 + 10 * w_yr)) (q (18 + 10 * w_yr)) (q (19 + 10 * w_yr)) (q (20 + 10 * w_yr)) (q (11 + 10 * w_yr)) (q 55) (q 52) (q 53) gY w_yr (hgY w_yr hw_w_yr) (ysz w_yr) gr1 (ykd w_yr) (yx w_yr) (yy w_yr) (yz w_yr) (yst w_yr) (ysh w_yr) lqd lse lqu (xs (j + 1)) (xs (j + 2)) (1 : Int32) H.size _ h) (cwV 3 hts gL_law_X8_lines rfl rfl rfl cdv_X8_lines ⟨Nat.le_of_ble_eq_true rfl, Nat.le_of_ble_eq_true rfl⟩) rfl hl.1 rfl (Nat.le_of_ble_eq_true rfl) ⟨Nat.le_refl _, Nat.le_refl _⟩ dL_law_906 (fun r_1 u H locs h hP hD hS => ?_)
    obtain ⟨c_2, c_3, c_4, c_5⟩ := u
    try dsimp only at h
    obtain ⟨ce1, e1⟩ : ∃ z : Nat → va_E, z = asg [55, 51, 52, 53] [.inl (cy 0, (256, .inl c_2)), .inr (3, [.ref (q 52), .ref (q 53), .int c_3]), .inl (cy 1, (450, .inl c_4)), .inl (cy 0, (450, .inl c_5))] ce := ⟨_, rfl⟩
    have hP : va_P D vwCl (fw q ce1) H := by rw [e1]; exact hP
    have hD : va_D A (fw q ce1) := by rw [e1]; exact hD
    have hni : ∀ k, k ∉ ([55, 51, 52, 53] : List Nat) → ce1 k = ce k := fun k hk => (congrFun e1 k).trans (asg_out hk)
    have hm58 : ∀ k, 58 ≤ k → k ∉ ([55, 51, 52, 53] : List Nat) := by intro k hk; simp only [List.mem_cons, List.not_mem_nil, or_false]; omega
    have k0 := (hni 0 (show 0 ∉ ([55, 51, 52, 53] : List Nat) by decide)).trans k0
    have k1 := (hni 1 (show 1 ∉ ([55, 51, 52, 53] : List Nat) by decide)).trans k1
    have k2 := (hni 2 (show 2 ∉ ([55, 51, 52, 53] : List Nat) by decide)).trans k2
    have kS := gSh.mono (fun k h1 h2 => hni k (by simp only [List.mem_cons, List.not_mem_nil, or_false]; omega)) kS
    have kY := gYr.mono (fun k h1 h2 => hni k (by simp only [List.mem_cons, List.not_mem_nil, or_false]; omega)) kY
    have kT := gTp.mono (fun k h1 h2 => hni k (by simp only [List.mem_cons, List.not_mem_nil, or_false]; omega)) kT
    have kJ := gJt.mono (fun k h1 h2 => hni k (by simp only [List.mem_cons, List.not_mem_nil, or_false]; omega)) kJ
    have kF := gFi.mono (fun k h1 h2 => hni k (by simp only [List.mem_cons, List.not_mem_nil, or_false]; omega)) kF
    have kR := gRo.mono (fun k h1 h2 => hni k (by simp only [List.mem_cons, List.not_mem_nil, or_false]; omega)) kR
    have k51 := (congrFun e1 51).trans (asg_at 1 hnM rfl rfl)
    have k52 := (congrFun e1 52).trans (asg_at 2 hnM rfl rfl)
    have k53 := (congrFun e1 53).trans (asg_at 3 hnM rfl rfl)
    have k54 := (hni 54 (show 54 ∉ ([55, 51, 52, 53] : List Nat) by decide)).trans k54
    have k55 := (congrFun e1 55).trans (asg_at 0 hnM rfl rfl)
    have k56 := (hni 56 (show 56 ∉ ([55, 51, 52, 53] : List Nat) by decide)).trans k56
    have k57 := (hni 57 (show 57 ∉ ([55, 51, 52, 53] : List Nat) by decide)).trans k57
    have k58 := (hni 58 (hm58 58 (by decide))).trans k58
    have k59 := (hni 59 (hm58 59 (by decide))).trans k59
    have k60 := (hni 60 (hm58 60 (by decide))).trans k60
    have k61 := (hni 61 (hm58 61 (by decide))).trans k61
    have k62 := (hni 62 (hm58 62 (by decide))).trans k62
    have k63 := (hni 63 (hm58 63 (by decide))).trans k63
    have k64 := (hni 64 (hm58 64 (by decide))).trans k64
    have k65 := (hni 65 (hm58 65 (by decide))).trans k65
    have k66 := (hni 66 (hm58 66 (by decide))).trans k66
    have k67 := (hni 67 (hm58 67 (by decide))).trans k67
    have k68 := (hni 68 (hm58 68 (by decide))).trans k68
    have k69 := (hni 69 (hm58 69 (by decide))).trans k69
    have k70 := (hni 70 (hm58 70 (by decide))).trans k70
    have k71 := (hni 71 (hm58 71 (by decide))).trans k71
    have k72 := (hni 72 (hm58 72 (by decide))).trans k72
    have k73 := (hni 73 (hm58 73 (by decide))).trans k73
    have k74 := (hni 74 (hm58 74 (by decide))).trans k74
    have k75 := (hni 75 (hm58 75 (by decide))).trans k75
    have k76 := (hni 76 (hm58 76 (by decide))).trans k76
    have k77 := (hni 77 (hm58 77 (by decide))).trans k77
    have k78 := (hni 78 (hm58 78 (by decide))).trans k78
    have k79 := (hni 79 (hm58 79 (by decide))).trans k79
    have k80 := (hni 80 (hm58 80 (by decide))).trans k80
    have k81 := (hni 81 (hm58 81 (by decide))).trans k81
    have k82 := (hni 82 (hm58 82 (by decide))).trans k82
    have k83 := (hni 83 (hm58 83 (by decide))).trans k83
    refine lv_aload_n hx hb dL_law_909 rfl (lv_at hl 2 rfl) ?_
    refine lv_aload_n hx hb dL_law_910 rfl (lv_at hl 0 rfl) ?_
    refine lv_iload_n hx hb dL_law_911 rfl (lv_at hl 3 rfl) ?_
    refine lv_iconst (v := (1 : Int32)) hx hb dL_law_912 (by decide) ?_
    refine lv_iadd hx hb dL_law_913 ?_
    refine py_sld hx hb hX hbl hbA hS (k := j + 1) i1.1 i1.2 dL_law_914 ?_
    refine lv_aload_n hx hb dL_law_915 rfl (lv_at hl 0 rfl) ?_
    refine lv_iload_n hx hb dL_law_916 rfl (lv_at hl 3 rfl) ?_
    refine lv_iconst (v := (2 : Int32)) hx hb dL_law_917 (by decide) ?_
    refine lv_iadd hx hb dL_law_918 ?_
    refine py_sld hx hb hX hbl hbA hS (k := j + 2) i2.1 i2.2 dL_law_919 ?_
    refine lv_aload_n hx hb dL_law_920 rfl (lv_at hl 0 rfl) ?_
    refine lv_iload_n hx hb dL_law_921 rfl (lv_at hl 3 rfl) ?_
    refine lv_iconst (v := (3 : Int32)) hx hb dL_law_922 (by decide) ?_
    refine lv_iadd hx hb dL_law_923 ?_
    refine py_sld hx hb hX hbl hbA hS (k := j + 3) i3.1 i3.2 dL_law_924 ?_
    refine lv_if_eq (tgt := 932) hx hb dL_law_925 (by decide) (fun c_ => absurd c_ hz) (fun c_ => ?_)
    refine lv_iconst (v := (1 : Int32)) hx hb dL_law_928 (by decide) ?_
    refine lv_goto (tgt := 933) hx hb dL_law_929 (by decide) ?_
    have hnM : ([78, 79] : List Nat).Nodup := show ([78, 79] : List Nat).Nodup by decide
    refine fw_wi (T := (Nat → Int32) × (Nat → Int32)) (As := [.int (xs (j + 1)), .int (xs (j + 2)), .int (1 : Int32)]) ⟨hx, hb, hml, hown, hts⟩ hKK hP hD hS hA [58, 78, 63, 64, 65, 66, 67, 72, 68, 79] (show ∀ i ∈ ([58, 78, 63, 64, 65, 66, 67, 72, 68, 79] : List Nat), i < 84 by decide) (show ([58, 78, 63, 64, 65, 66, 67, 72, 68, 79] : List Nat).Nodup by decide) (vs := [.inr (9, [.ref (q 59), .ref (q 60), .ref (q 61), .ref (q 62), .ref (q 63), .ref (q 64), .ref (q 65), .ref (q 66), .ref (q 67), .ref (q 68), .ref (q 69), .ref (q 70), .ref (q 71), .ref (q 72), .ref (q 73), .ref (q 74), .ref (q 75), .ref (q 76), .int mhs, .ref (q 77), .ref (q 78), .ref (q 79), .ref (q 80), .ref (q 81), .int mtd, .int mat, .int mfa, .int mss, .ref (q 82), .ref (q 83)]), .inl (cy 0, (256, .inl mce)), .inl (cy 0, (2, .inl mma)), .inl (cy 0, (200, .inl mpx)), .inl (cy 0, (200, .inl mpy)), .inl (cy 0, (200, .inl mpz)), .inl (cy 0, (200, .inl mst)), .inl (cy 0, (8, .inl msh)), .inl (cy 0, (200, .inl mkd)), .inl (cy 0, (450, .inl mpa))]) (lc k58 (lc k78 (lc k63 (lc k64 (lc k65 (lc k66 (lc k67 (lc k72 (lc k68 (lc k79 rfl)))))))))) rfl 58 9 (by decide) rfl k58 [78, 79] (show ∀ i ∈ ([78, 79] : List Nat), i ∈ ([58, 78, 63, 64, 65, 66, 67, 72, 68, 79] : List Nat) by decide) (fun (u : (Nat → Int32) × (Nat → Int32)) => [.inl (cy 0, (256, .inl u.1)), .inl (cy 0, (450, .inl u.2))]) (fun (u : (Nat → Int32) × (Nat → Int32)) => [.inr (9, [.ref (q 59), .ref (q 60), .ref (q 61), .ref (q 62), .ref (q 63), .ref (q 64), .ref (q 65), .ref (q 66), .ref (q 67), .ref (q 68), .ref (q 69), .ref (q 70), .ref (q 71), .ref (q 72), .ref (q 73), .ref (q 74), .ref (q 75), .ref (q 76), .int mhs, .ref (q 77), .ref (q 78), .ref (q 79), .ref (q 80), .ref (q 81), .int mtd, .int mat, .int mfa, .int mss, .ref (q 82), .ref (q 83)]), .inl (cy 0, (256, .inl u.1)), .inl (cy 0, (2, .inl mma)), .inl (cy 0, (200, .inl mpx)), .inl (cy 0, (200, .inl mpy)), .inl (cy 0, (200, .inl mpz)), .inl (cy 0, (200, .inl mst)), .inl (cy 0, (8, .inl msh)), .inl (cy 0, (200, .inl mkd)), .inl (cy 0, (450, .inl u.2))]) (fun u => (lc ((asg_out (show 58 ∉ ([78, 79] : List Nat) by decide)).trans k58) (lc (asg_at 0 hnM rfl rfl) (lc ((asg_out (show 63 ∉ ([78, 79] : List Nat) by decide)).trans k63) (lc ((asg_out (show 64 ∉ ([78, 79] : List Nat) by decide)).trans k64) (lc ((asg_out (show 65 ∉ ([78, 79] : List Nat) by decide)).trans k65) (lc ((asg_out (show 66 ∉ ([78, 79] : List Nat) by decide)).trans k66) (lc ((asg_out (show 67 ∉ ([78, 79] : List Nat) by decide)).trans k67) (lc ((asg_out (show 72 ∉ ([78, 79] : List Nat) by decide)).trans k72) (lc ((asg_out (show 68 ∉ ([78, 79] : List Nat) by decide)).trans k68) (lc (asg_at 1 hnM rfl rfl) rfl))))))))))) (fun _ => rfl) (c_X9_lines l D cy (q 59) (q 60) (q 61) (q 62) (q 63) (q 64) (q 65) (q 66) (q 67) (q 68) (q 69) (q 70) (q 71) (q 72) (q 73) (q 74) (q 75) (q 76) (q 77) (q 78) (q 79) (q 80) (q 81) (q 82) (q 83) (q 58) mhs mtd mat mfa mss mce mma mpx mpy mpz mst msh mkd mpa (xs (j + 1)) (xs (j + 2)) (1 : Int32) H.size _ h) (cwV 3 hts gL_law_X9_lines rfl rfl rfl cdv_X9_lines ⟨Nat.le_of_ble_eq_true rfl, Nat.le_of_ble_eq_true rfl⟩) rfl hl.1 rfl (Nat.le_of_ble_eq_true rfl) ⟨Nat.le_refl _, Nat.le_refl _⟩ dL_law_933 (fun r_6 u H locs h hP hD hS => ?_)
    obtain ⟨c_7, c_8⟩ := u
    try dsimp only at h
    obtain ⟨ce2, e2⟩ : ∃ z : Nat → va_E, z = asg [78, 79] [.inl (cy 0, (256, .inl c_7)), .inl (cy 0, (450, .inl c_8))] ce1 := ⟨_, rfl⟩
    have hP : va_P D vwCl (fw q ce2) H := by rw [e2]; exact hP
    have hD : va_D A (fw q ce2) := by rw [e2]; exact hD
    have hni : ∀ k, k ∉ ([78, 79] : List Nat) → ce2 k = ce1 k := fun k hk => (congrFun e2 k).trans (asg_out hk)
    have k0 := (hni 0 (show 0 ∉ ([78, 79] : List Nat) by decide)).trans k0
    have k1 := (hni 1 (show 1 ∉ ([78, 79] : List Nat) by decide)).trans k1
    have k2 := (hni 2 (show 2 ∉ ([78, 79] : List Nat) by decide)).trans k2
    have kS := gSh.mono (fun k h1 h2 => hni k (by simp only [List.mem_cons, List.not_mem_nil, or_false]; omega)) kS
    have kY := gYr.mono (fun k h1 h2 => hni k (by simp only [List.mem_cons, List.not_mem_nil, or_false]; omega)) kY
    have kT := gTp.mono (fun k h1 h2 => hni k (by simp only [List.mem_cons, List.not_mem_nil, or_false]; omega)) kT
    have kJ := gJt.mono (fun k h1 h2 => hni k (by simp only [List.mem_cons, List.not_mem_nil, or_false]; omega)) kJ
    have kF := gFi.mono (fun k h1 h2 => hni k (by simp only [List.mem_cons, List.not_mem_nil, or_false]; omega)) kF
    have kR := gRo.mono (fun k h1 h2 => hni k (by simp only [List.mem_cons, List.not_mem_nil, or_false]; omega)) kR
    have k51 := (hni 51 (show 51 ∉ ([78, 79] : List Nat) by decide)).trans k51
    have k52 := (hni 52 (show 52 ∉ ([78, 79] : List Nat) by decide)).trans k52
    have k53 := (hni 53 (show 53 ∉ ([78, 79] : List Nat) by decide)).trans k53
    have k54 := (hni 54 (show 54 ∉ ([78, 79] : List Nat) by decide)).trans k54
    have k55 := (hni 55 (show 55 ∉ ([78, 79] : List Nat) by decide)).trans k55
    have k56 := (hni 56 (show 56 ∉ ([78, 79] : List Nat) by decide)).trans k56
    have k57 := (hni 57 (show 57 ∉ ([78, 79] : List Nat) by decide)).trans k57
    have k58 := (hni 58 (show 58 ∉ ([78, 79] : List Nat) by decide)).trans k58
    have k59 := (hni 59 (show 59 ∉ ([78, 79] : List Nat) by decide)).trans k59
    have k60 := (hni 60 (show 60 ∉ ([78, 79] : List Nat) by decide)).trans k60
    have k61 := (hni 61 (show 61 ∉ ([78, 79] : List Nat) by decide)).trans k61
    have k62 := (hni 62 (show 62 ∉ ([78, 79] : List Nat) by decide)).trans k62
    have k63 := (hni 63 (show 63 ∉ ([78, 79] : List Nat) by decide)).trans k63
    have k64 := (hni 64 (show 64 ∉ ([78, 79] : List Nat) by decide)).trans k64
    have k65 := (hni 65 (show 65 ∉ ([78, 79] : List Nat) by decide)).trans k65
    have k66 := (hni 66 (show 66 ∉ ([78, 79] : List Nat) by decide)).trans k66
    have k67 := (hni 67 (show 67 ∉ ([78, 79] : List Nat) by decide)).trans k67
    have k68 := (hni 68 (show 68 ∉ ([78, 79] : List Nat) by decide)).trans k68
    have k69 := (hni 69 (show 69 ∉ ([78, 79] : List Nat) by decide)).trans k69
    have k70 := (hni 70 (show 70 ∉ ([78, 79] : List Nat) by decide)).trans k70
    have k71 := (hni 71 (show 71 ∉ ([78, 79] : List Nat) by decide)).trans k71
    have k72 := (hni 72 (show 72 ∉ ([78, 79] : List Nat) by decide)).trans k72
    have k73 := (hni 73 (show 73 ∉ ([78, 79] : List Nat) by decide)).trans k73
    have k74 := (hni 74 (show 74 ∉ ([78, 79] : List Nat) by decide)).trans k74
    have k75 := (hni 75 (show 75 ∉ ([78, 79] : List Nat) by decide)).trans k75
    have k76 := (hni 76 (show 76 ∉ ([78, 79] : List Nat) by decide)).trans k76
    have k77 := (hni 77 (show 77 ∉ ([78, 79] : List Nat) by decide)).trans k77
    have k78 := (congrFun e2 78).trans (asg_at 0 hnM rfl rfl)
    have k79 := (congrFun e2 79).trans (asg_at 1 hnM rfl rfl)
    have k80 := (hni 80 (show 80 ∉ ([78, 79] : List Nat) by decide)).trans k80
    have k81 := (hni 81 (show 81 ∉ ([78, 79] : List Nat) by decide)).trans k81
    have k82 := (hni 82 (show 82 ∉ ([78, 79] : List Nat) by decide)).trans k82
    have k83 := (hni 83 (show 83 ∉ ([78, 79] : List Nat) by decide)).trans k83
    refine lv_icmp_eq (tgt := 1060) hx hb dL_law_936 (by decide) (fun c_ => ?_) (fun c_ => absurd h.1 c_)
    exact next H locs ⟨ce2, _, _, _, _, _, _, _, _, _, _, _, _, _, _, _, _, _, _, _, _, _, _, _, _, _, _, _, _, _, _, ⟨k0, k1, k2⟩, kS, kY, kT, kJ, kF, kR, ⟨_, _, _, k51, k52, k53⟩, ⟨_, _, k54, k55, k56, k57⟩, ⟨_, _, _, _, _, _, _, _, _, _, _, _, _, _, _, k58, k59, k60, k61, k62, k63, k64, k65, k66, k67, k68, k69, k70, k71, k72, k73, k74, k75, k76, k77, k78, k79, k80, k81, k82, k83⟩, h.2, hP, hD, hS⟩ ls hl
