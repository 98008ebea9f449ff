set_option maxHeartbeats 4000000 in
set_option maxRecDepth 20000 in
theorem law_hand {p : Program} {l : Launch} {e : Env} {s : State} {m : MethodId} {below : List Frame} {meth : Method} {c : Code} {b L : Nat} {xs : Nat → Int32} {A : Nat → Prop} {Qf : State → Prop} {D : va_G} {cy : Nat → ClassId} {q : Nat → Nat} {gS gY gF : Nat → Option Nat} (hx : p.tables.exec = Jvm.exec) (hb : c.code = cL_law) (hml : c.maxLocals = 4) (hown : s.vm.findClass RL = some m.cls) (hts : ∀ w ∈ wsL_law, w.before #[Value.ref b] s = true) (hKK : py_K D cy s) (hX : va_X b L xs s s.heap) (hbl : b < s.heap.size) (hbA : ¬ A b) (hA : ∀ q : Nat, s.heap.size ≤ q → A q) (hgS : ∀ t, t < 4 → gS t = some (q (3 + 2 * t))) (hgY : ∀ t, t < 2 → gY t = some (q (11 + 10 * t))) (hgF0 : gF 0 = some (q 41)) (hgF1 : gF 1 = some (q 42)) (hgF2 : gF 2 = some (q 43)) (j : Nat) (hj : j + 6 ≤ L) (hL : L ≤ 3072) (H : Heap) (locs : List Loc) (hw : LWd D cy q gS gY gF A s H locs) (ls : Array Slot) (hl : lv_has ls 4 [(0, .ref b), (1, .ref (q 0)), (2, .ref (q 58)), (3, .int (nI j))])
    (next : ∀ (H : Heap) (locs : List Loc), LWd D cy q gS gY gF A s H locs → ∀ (ls : Array Slot), lv_has ls 4 [(0, .ref b), (1, .ref (q 0)), (2, .ref (q 58)), (3, .int (nI j))] → W p l e room_1 s m #[Value.ref b] below meth c H locs 600000 7302250 Qf (F0 m 1060 ls [])) : W p l e room_1 s m #[Value.ref b] below meth c H locs 600000 7302250 Qf (F0 m 610 ls []) := by
  obtain ⟨ce, lane, size, items, ysz, yx, yy, yz, yst, ykd, ybh, yrd, ysh, ylo, tn, tb, mla, msi, mit, mma, mpx, mpy, mpz, mst, mkd, mbh, mrd, mlo, msh, mtp, mtd, kX, kS, kY, kT, kJ, kF, kR, kL, kG, kM, hR, hP, hD, hS⟩ := hw
  have i1 := py_ix (k := 1) (y := (1 : Int32)) hj hL (by decide) (by decide)
  have i2 := py_ix (k := 2) (y := (2 : Int32)) hj hL (by decide) (by decide)
  have i3 := py_ix (k := 3) (y := (3 : Int32)) hj hL (by decide) (by decide)
  obtain ⟨k0, k1, k2⟩ := kX
  obtain ⟨msp, mmx, mri, mfo, mhi, mne, mce, mpa, mbe, mwh, mnu, mhs, mat, mfa, mss, k58, k59, k60, k61, k62, k63, k64, k65, k66, k67, k68, k69, k70, k71, k72, k73, k74, k75, k76, k77, k78, k79, k80, k81, k82, k83⟩ := kM
  have h : lw_hand lane size items ysz yx yy yz yst ykd ybh yrd ysh ylo tn tb mla msi mit mma mpx mpy mpz mst mkd mbh mrd mlo msh mtp mtd (xs (j + 1)) (xs (j + 2)) (xs (j + 3)) RR := t_hand hR  (xs (j + 1)) (xs (j + 2)) (xs (j + 3))
  unfold lw_hand at h
  obtain ⟨w_yr, hw_w_yr, h⟩ := h
  refine lv_aload_n hx hb dL_law_610 rfl (lv_at hl 1 rfl) ?_
  refine lv_aload_n hx hb dL_law_611 rfl (lv_at hl 0 rfl) ?_
  refine lv_iload_n hx hb dL_law_612 rfl (lv_at hl 3 rfl) ?_
  refine lv_iconst (v := (1 : Int32)) hx hb dL_law_613 (by decide) ?_
  refine lv_iadd hx hb dL_law_614 ?_
  refine py_sld hx hb hX hbl hbA hS (k := j + 1) i1.1 i1.2 dL_law_615 ?_
  refine lv_aload_n hx hb dL_law_616 rfl (lv_at hl 0 rfl) ?_
  refine lv_iload_n hx hb dL_law_617 rfl (lv_at hl 3 rfl) ?_
  refine lv_iconst (v := (2 : Int32)) hx hb dL_law_618 (by decide) ?_
  refine lv_iadd hx hb dL_law_619 ?_
  refine py_sld hx hb hX hbl hbA hS (k := j + 2) i2.1 i2.2 dL_law_620 ?_
  refine lv_aload_n hx hb dL_law_621 rfl (lv_at hl 0 rfl) ?_
  refine lv_iload_n hx hb dL_law_622 rfl (lv_at hl 3 rfl) ?_
  refine lv_iconst (v := (3 : Int32)) hx hb dL_law_623 (by decide) ?_
  refine lv_iadd hx hb dL_law_624 ?_
  refine py_sld hx hb hX hbl hbA hS (k := j + 3) i3.1 i3.2 dL_law_625 ?_
  have hnM : ([(17 + 10 * w_yr), (16 + 10 * w_yr), (18 + 10 * w_yr)] : List Nat).Nodup := (show ∀ w_yr : Nat, w_yr < 2 → ([(17 + 10 * w_yr), (16 + 10 * w_yr), (18 + 10 * w_yr)] : List Nat).Nodup by decide) w_yr hw_w_yr
  refine fw_wi (T := (Nat → Int32) × (Nat → Int32) × (Nat → Int32)) (As := [.int (xs (j + 1)), .int (xs (j + 2)), .int (xs (j + 3))]) ⟨hx, hb, hml, hown, hts⟩ hKK hP hD hS hA [0, 2, (11 + 10 * w_yr), (17 + 10 * w_yr), (16 + 10 * w_yr), (18 + 10 * w_yr)] ((show ∀ w_yr : Nat, w_yr < 2 → ∀ i ∈ ([0, 2, (11 + 10 * w_yr), (17 + 10 * w_yr), (16 + 10 * w_yr), (18 + 10 * w_yr)] : List Nat), i < 84 by decide) w_yr hw_w_yr) ((show ∀ w_yr : Nat, w_yr < 2 → ([0, 2, (11 + 10 * w_yr), (17 + 10 * w_yr), (16 + 10 * w_yr), (18 + 10 * w_yr)] : List Nat).Nodup by decide) w_yr hw_w_yr) (vs := [.inr (8, [.ref (q 1), .ref (q 2), .ref (q 31), .ref (q 33), .ref (q 38), .ref (q 46), .ref (q 51), .ref (q 54), .ref (q 56)]), .inl (cy 5, (2, .inr (.inr (.inr (.inr gY))))), .inr (7, [.ref (q (12 + 10 * w_yr)), .ref (q (13 + 10 * w_yr)), .ref (q (14 + 10 * w_yr)), .ref (q (15 + 10 * w_yr)), .ref (q (16 + 10 * w_yr)), .ref (q (17 + 10 * w_yr)), .ref (q (18 + 10 * w_yr)), .ref (q (19 + 10 * w_yr)), .ref (q (20 + 10 * w_yr)), .int (ysz w_yr)]), .inl (cy 0, (100, .inl (ybh w_yr))), .inl (cy 0, (100, .inl (ykd w_yr))), .inl (cy 0, (100, .inl (yrd w_yr)))]) (lc k0 (lc k2 (lc (kY w_yr hw_w_yr).1 (lc (kY w_yr hw_w_yr).2.2.2.2.2.2.1 (lc (kY w_yr hw_w_yr).2.2.2.2.2.1 (lc (kY w_yr hw_w_yr).2.2.2.2.2.2.2.1 rfl)))))) rfl 0 8 (by decide) rfl k0 [(17 + 10 * w_yr), (16 + 10 * w_yr), (18 + 10 * w_yr)] ((show ∀ w_yr : Nat, w_yr < 2 → ∀ i ∈ ([(17 + 10 * w_yr), (16 + 10 * w_yr), (18 + 10 * w_yr)] : List Nat), i ∈ ([0, 2, (11 + 10 * w_yr), (17 + 10 * w_yr), (16 + 10 * w_yr), (18 + 10 * w_yr)] : List Nat) by decide) w_yr hw_w_yr) (fun (u : (Nat → Int32) × (Nat → Int32) × (Nat → Int32)) => [.inl (cy 0, (100, .inl u.1)), .inl (cy 0, (100, .inl u.2.1)), .inl (cy 0, (100, .inl u.2.2))]) (fun (u : (Nat → Int32) × (Nat → Int32) × (Nat → Int32)) => [.inr (8, [.ref (q 1), .ref (q 2), .ref (q 31), .ref (q 33), .ref (q 38), .ref (q 46), .ref (q 51), .ref (q 54), .ref (q 56)]), .inl (cy 5, (2, .inr (.inr (.inr (.inr gY))))), .inr (7, [.ref (q (12 + 10 * w_yr)), .ref (q (13 + 10 * w_yr)), .ref (q (14 + 10 * w_yr)), .ref (q (15 + 10 * w_yr)), .ref (q (16 + 10 * w_yr)), .ref (q (17 + 10 * w_yr)), .ref (q (18 + 10 * w_yr)), .ref (q (19 + 10 * w_yr)), .ref (q (20 + 10 * w_yr)), .int (ysz w_yr)]), .inl (cy 0, (100, .inl u.1)), .inl (cy 0, (100, .inl u.2.1)), .inl (cy 0, (100, .inl u.2.2))]) (fun u => (lc ((asg_out ((show ∀ w_yr : Nat, w_yr < 2 → 0 ∉ ([(17 + 10 * w_yr), (16 + 10 * w_yr), (18 + 10 * w_yr)] : List Nat) by decide) w_yr hw_w_yr)).trans k0) (lc ((asg_out ((show ∀ w_yr : Nat, w_yr < 2 → 2 ∉ ([(17 + 10 * w_yr), (16 + 10 * w_yr), (18 + 10 * w_yr)] : List Nat) by decide) w_yr hw_w_yr)).trans k2) (lc ((asg_out ((show ∀ w_yr : Nat, w_yr < 2 → (11 + 10 * w_yr) ∉ ([(17 + 10 * w_yr), (16 + 10 * w_yr), (18 + 10 * w_yr)] : List Nat) by decide) w_yr hw_w_yr)).trans (kY w_yr hw_w_yr).1) (lc (asg_at 0 hnM rfl rfl) (lc (asg_at 1 hnM rfl rfl) (lc (asg_at 2 hnM rfl rfl) rfl))))))) (fun _ => rfl) (c_X8_hand l D cy (q 1) (q 2) (q 31) (q 33) (q 38) (q 46) (q 51) (q 54) (q 56) (q 0) (q (12 + 10 * w_yr)) (q (13 + 10 * w_yr)) (q (14 + 10 * w_yr)) (q (15 + 10 * w_yr)) (q (16 + 10 * w_yr)) (q (17 + 10 * w_yr)) (q (18 + 10 * w_yr)) (q (19 + 10 * w_yr)) (q (20 + 10 * w_yr)) (q (11 + 10 * w_yr)) gY w_yr (hgY w_yr hw_w_yr) (ysz w_yr) (ybh w_yr) (ykd w_yr) (yrd w_yr) (xs (j + 1)) (xs (j + 2)) (xs (j + 3)) H.size _ h) (cwV 3 hts gL_law_X8_hand rfl rfl rfl cdv_X8_hand ⟨Nat.le_of_ble_eq_true rfl, Nat.le_of_ble_eq_true rfl⟩) rfl hl.1 rfl (Nat.le_of_ble_eq_true rfl) ⟨Nat.le_refl _, Nat.le_refl _⟩ dL_law_626 (fun r_1 u H locs h hP hD hS => ?_)
  obtain ⟨c_2, c_3, c_4⟩ := u
  try dsimp only at h
  obtain ⟨ce1, e1⟩ : ∃ z : Nat → va_E, z = asg [(17 + 10 * w_yr), (16 + 10 * w_yr), (18 + 10 * w_yr)] [.inl (cy 0, (100, .inl c_2)), .inl (cy 0, (100, .inl c_3)), .inl (cy 0, (100, .inl c_4))] ce := ⟨_, rfl⟩
  have hP : va_P D vwCl (fw q ce1) H := by rw [e1]; exact hP
  have hD : va_D A (fw q ce1) := by rw [e1]; exact hD
  have hni : ∀ k, k ∉ ([(17 + 10 * w_yr), (16 + 10 * w_yr), (18 + 10 * w_yr)] : List Nat) → ce1 k = ce k := fun k hk => (congrFun e1 k).trans (asg_out hk)
  have hm58 : ∀ k, 58 ≤ k → k ∉ ([(17 + 10 * w_yr), (16 + 10 * w_yr), (18 + 10 * w_yr)] : List Nat) := by intro k hk; simp only [List.mem_cons, List.not_mem_nil, or_false]; omega
  have k0 := (hni 0 ((show ∀ w_yr : Nat, w_yr < 2 → 0 ∉ ([(17 + 10 * w_yr), (16 + 10 * w_yr), (18 + 10 * w_yr)] : List Nat) by decide) w_yr hw_w_yr)).trans k0
  have k1 := (hni 1 ((show ∀ w_yr : Nat, w_yr < 2 → 1 ∉ ([(17 + 10 * w_yr), (16 + 10 * w_yr), (18 + 10 * w_yr)] : List Nat) by decide) w_yr hw_w_yr)).trans k1
  have k2 := (hni 2 ((show ∀ w_yr : Nat, w_yr < 2 → 2 ∉ ([(17 + 10 * w_yr), (16 + 10 * w_yr), (18 + 10 * w_yr)] : List Nat) by decide) w_yr hw_w_yr)).trans k2
  have kS := gSh.mono (fun k h1 h2 => hni k (by simp only [List.mem_cons, List.not_mem_nil, or_false]; omega)) kS
  have kY : gYr q cy ysz yx yy yz yst (va_up ykd w_yr c_3) (va_up ybh w_yr c_2) (va_up yrd w_yr c_4) ysh ylo ce1 := by
    intro t ht
    by_cases et : t = w_yr
    · rw [et]
      simp only [up_at]
      exact ⟨((hni _ ((show ∀ w_yr : Nat, w_yr < 2 → (11 + 10 * w_yr) ∉ ([(17 + 10 * w_yr), (16 + 10 * w_yr), (18 + 10 * w_yr)] : List Nat) by decide) w_yr hw_w_yr)).trans (kY w_yr hw_w_yr).1), ((hni _ ((show ∀ w_yr : Nat, w_yr < 2 → (12 + 10 * w_yr) ∉ ([(17 + 10 * w_yr), (16 + 10 * w_yr), (18 + 10 * w_yr)] : List Nat) by decide) w_yr hw_w_yr)).trans (kY w_yr hw_w_yr).2.1), ((hni _ ((show ∀ w_yr : Nat, w_yr < 2 → (13 + 10 * w_yr) ∉ ([(17 + 10 * w_yr), (16 + 10 * w_yr), (18 + 10 * w_yr)] : List Nat) by decide) w_yr hw_w_yr)).trans (kY w_yr hw_w_yr).2.2.1), ((hni _ ((show ∀ w_yr : Nat, w_yr < 2 → (14 + 10 * w_yr) ∉ ([(17 + 10 * w_yr), (16 + 10 * w_yr), (18 + 10 * w_yr)] : List Nat) by decide) w_yr hw_w_yr)).trans (kY w_yr hw_w_yr).2.2.2.1), ((hni _ ((show ∀ w_yr : Nat, w_yr < 2 → (15 + 10 * w_yr) ∉ ([(17 + 10 * w_yr), (16 + 10 * w_yr), (18 + 10 * w_yr)] : List Nat) by decide) w_yr hw_w_yr)).trans (kY w_yr hw_w_yr).2.2.2.2.1), ((congrFun e1 _).trans (asg_at 1 hnM rfl rfl)), ((congrFun e1 _).trans (asg_at 0 hnM rfl rfl)), ((congrFun e1 _).trans (asg_at 2 hnM rfl rfl)), ((hni _ ((show ∀ w_yr : Nat, w_yr < 2 → (19 + 10 * w_yr) ∉ ([(17 + 10 * w_yr), (16 + 10 * w_yr), (18 + 10 * w_yr)] : List Nat) by decide) w_yr hw_w_yr)).trans (kY w_yr hw_w_yr).2.2.2.2.2.2.2.2.1), ((hni _ ((show ∀ w_yr : Nat, w_yr < 2 → (20 + 10 * w_yr) ∉ ([(17 + 10 * w_yr), (16 + 10 * w_yr), (18 + 10 * w_yr)] : List Nat) by decide) w_yr hw_w_yr)).trans (kY w_yr hw_w_yr).2.2.2.2.2.2.2.2.2)⟩
    · simp only [up_ne et]
      exact ⟨((hni _ (by simp only [List.mem_cons, List.not_mem_nil, or_false]; omega)).trans (kY t ht).1), ((hni _ (by simp only [List.mem_cons, List.not_mem_nil, or_false]; omega)).trans (kY t ht).2.1), ((hni _ (by simp only [List.mem_cons, List.not_mem_nil, or_false]; omega)).trans (kY t ht).2.2.1), ((hni _ (by simp only [List.mem_cons, List.not_mem_nil, or_false]; omega)).trans (kY t ht).2.2.2.1), ((hni _ (by simp only [List.mem_cons, List.not_mem_nil, or_false]; omega)).trans (kY t ht).2.2.2.2.1), ((hni _ (by simp only [List.mem_cons, List.not_mem_nil, or_false]; omega)).trans (kY t ht).2.2.2.2.2.1), ((hni _ (by simp only [List.mem_cons, List.not_mem_nil, or_false]; omega)).trans (kY t ht).2.2.2.2.2.2.1), ((hni _ (by simp only [List.mem_cons, List.not_mem_nil, or_false]; omega)).trans (kY t ht).2.2.2.2.2.2.2.1), ((hni _ (by simp only [List.mem_cons, List.not_mem_nil, or_false]; omega)).trans (kY t ht).2.2.2.2.2.2.2.2.1), ((hni _ (by simp only [List.mem_cons, List.not_mem_nil, or_false]; omega)).trans (kY t ht).2.2.2.2.2.2.2.2.2)⟩
  have kT := gTp.mono (fun k h1 h2 => hni k (by simp only [List.mem_cons, List.not_mem_nil, or_false]; omega)) kT
  have kJ := gJt.mono (fun k h1 h2 => hni k (by simp only [List.mem_cons, List.not_mem_nil, or_false]; omega)) kJ
  have kF := gFi.mono (fun k h1 h2 => hni k (by simp only [List.mem_cons, List.not_mem_nil, or_false]; omega)) kF
  have kR := gRo.mono (fun k h1 h2 => hni k (by simp only [List.mem_cons, List.not_mem_nil, or_false]; omega)) kR
  have kL := gLi.mono (fun k h1 h2 => hni k (by simp only [List.mem_cons, List.not_mem_nil, or_false]; omega)) kL
  have kG := gGr.mono (fun k h1 h2 => hni k (by simp only [List.mem_cons, List.not_mem_nil, or_false]; omega)) kG
  have k58 := (hni 58 (hm58 58 (by decide))).trans k58
  have k59 := (hni 59 (hm58 59 (by decide))).trans k59
  have k60 := (hni 60 (hm58 60 (by decide))).trans k60
  have k61 := (hni 61 (hm58 61 (by decide))).trans k61
  have k62 := (hni 62 (hm58 62 (by decide))).trans k62
  have k63 := (hni 63 (hm58 63 (by decide))).trans k63
  have k64 := (hni 64 (hm58 64 (by decide))).trans k64
  have k65 := (hni 65 (hm58 65 (by decide))).trans k65
  have k66 := (hni 66 (hm58 66 (by decide))).trans k66
  have k67 := (hni 67 (hm58 67 (by decide))).trans k67
  have k68 := (hni 68 (hm58 68 (by decide))).trans k68
  have k69 := (hni 69 (hm58 69 (by decide))).trans k69
  have k70 := (hni 70 (hm58 70 (by decide))).trans k70
  have k71 := (hni 71 (hm58 71 (by decide))).trans k71
  have k72 := (hni 72 (hm58 72 (by decide))).trans k72
  have k73 := (hni 73 (hm58 73 (by decide))).trans k73
  have k74 := (hni 74 (hm58 74 (by decide))).trans k74
  have k75 := (hni 75 (hm58 75 (by decide))).trans k75
  have k76 := (hni 76 (hm58 76 (by decide))).trans k76
  have k77 := (hni 77 (hm58 77 (by decide))).trans k77
  have k78 := (hni 78 (hm58 78 (by decide))).trans k78
  have k79 := (hni 79 (hm58 79 (by decide))).trans k79
  have k80 := (hni 80 (hm58 80 (by decide))).trans k80
  have k81 := (hni 81 (hm58 81 (by decide))).trans k81
  have k82 := (hni 82 (hm58 82 (by decide))).trans k82
  have k83 := (hni 83 (hm58 83 (by decide))).trans k83
  refine lv_aload_n hx hb dL_law_629 rfl (lv_at hl 2 rfl) ?_
  refine lv_aload_n hx hb dL_law_630 rfl (lv_at hl 0 rfl) ?_
  refine lv_iload_n hx hb dL_law_631 rfl (lv_at hl 3 rfl) ?_
  refine lv_iconst (v := (1 : Int32)) hx hb dL_law_632 (by decide) ?_
  refine lv_iadd hx hb dL_law_633 ?_
  refine py_sld hx hb hX hbl hbA hS (k := j + 1) i1.1 i1.2 dL_law_634 ?_
  refine lv_aload_n hx hb dL_law_635 rfl (lv_at hl 0 rfl) ?_
  refine lv_iload_n hx hb dL_law_636 rfl (lv_at hl 3 rfl) ?_
  refine lv_iconst (v := (2 : Int32)) hx hb dL_law_637 (by decide) ?_
  refine lv_iadd hx hb dL_law_638 ?_
  refine py_sld hx hb hX hbl hbA hS (k := j + 2) i2.1 i2.2 dL_law_639 ?_
  refine lv_aload_n hx hb dL_law_640 rfl (lv_at hl 0 rfl) ?_
  refine lv_iload_n hx hb dL_law_641 rfl (lv_at hl 3 rfl) ?_
  refine lv_iconst (v := (3 : Int32)) hx hb dL_law_642 (by decide) ?_
  refine lv_iadd hx hb dL_law_643 ?_
  refine py_sld hx hb hX hbl hbA hS (k := j + 3) i3.1 i3.2 dL_law_644 ?_
  have hnM : ([69, 68, 70] : List Nat).Nodup := show ([69, 68, 70] : List Nat).Nodup by decide
  refine fw_wi (T := (Nat → Int32) × (Nat → Int32) × (Nat → Int32)) (As := [.int (xs (j + 1)), .int (xs (j + 2)), .int (xs (j + 3))]) ⟨hx, hb, hml, hown, hts⟩ hKK hP hD hS hA [58, 63, 69, 68, 70] (show ∀ i ∈ ([58, 63, 69, 68, 70] : List Nat), i < 84 by decide) (show ([58, 63, 69, 68, 70] : List Nat).Nodup by decide) (vs := [.inr (9, [.ref (q 59), .ref (q 60), .ref (q 61), .ref (q 62), .ref (q 63), .ref (q 64), .ref (q 65), .ref (q 66), .ref (q 67), .ref (q 68), .ref (q 69), .ref (q 70), .ref (q 71), .ref (q 72), .ref (q 73), .ref (q 74), .ref (q 75), .ref (q 76), .int mhs, .ref (q 77), .ref (q 78), .ref (q 79), .ref (q 80), .ref (q 81), .int mtd, .int mat, .int mfa, .int mss, .ref (q 82), .ref (q 83)]), .inl (cy 0, (2, .inl mma)), .inl (cy 0, (200, .inl mbh)), .inl (cy 0, (200, .inl mkd)), .inl (cy 0, (200, .inl mrd))]) (lc k58 (lc k63 (lc k69 (lc k68 (lc k70 rfl))))) rfl 58 9 (by decide) rfl k58 [69, 68, 70] (show ∀ i ∈ ([69, 68, 70] : List Nat), i ∈ ([58, 63, 69, 68, 70] : List Nat) by decide) (fun (u : (Nat → Int32) × (Nat → Int32) × (Nat → Int32)) => [.inl (cy 0, (200, .inl u.1)), .inl (cy 0, (200, .inl u.2.1)), .inl (cy 0, (200, .inl u.2.2))]) (fun (u : (Nat → Int32) × (Nat → Int32) × (Nat → Int32)) => [.inr (9, [.ref (q 59), .ref (q 60), .ref (q 61), .ref (q 62), .ref (q 63), .ref (q 64), .ref (q 65), .ref (q 66), .ref (q 67), .ref (q 68), .ref (q 69), .ref (q 70), .ref (q 71), .ref (q 72), .ref (q 73), .ref (q 74), .ref (q 75), .ref (q 76), .int mhs, .ref (q 77), .ref (q 78), .ref (q 79), .ref (q 80), .ref (q 81), .int mtd, .int mat, .int mfa, .int mss, .ref (q 82), .ref (q 83)]), .inl (cy 0, (2, .inl mma)), .inl (cy 0, (200, .inl u.1)), .inl (cy 0, (200, .inl u.2.1)), .inl (cy 0, (200, .inl u.2.2))]) (fun u => (lc ((asg_out (show 58 ∉ ([69, 68, 70] : List Nat) by decide)).trans k58) (lc ((asg_out (show 63 ∉ ([69, 68, 70] : List Nat) by decide)).trans k63) (lc (asg_at 0 hnM rfl rfl) (lc (asg_at 1 hnM rfl rfl) (lc (asg_at 2 hnM rfl rfl) rfl)))))) (fun _ => rfl) (c_X9_hand l D cy (q 59) (q 60) (q 61) (q 62) (q 63) (q 64) (q 65) (q 66) (q 67) (q 68) (q 69) (q 70) (q 71) (q 72) (q 73) (q 74) (q 75) (q 76) (q 77) (q 78) (q 79) (q 80) (q 81) (q 82) (q 83) (q 58) mhs mtd mat mfa mss mma mbh mkd mrd (xs (j + 1)) (xs (j + 2)) (xs (j + 3)) H.size _ h) (cwV 3 hts gL_law_X9_hand rfl rfl rfl cdv_X9_hand ⟨Nat.le_of_ble_eq_true rfl, Nat.le_of_ble_eq_true rfl⟩) rfl hl.1 rfl (Nat.le_of_ble_eq_true rfl) ⟨Nat.le_refl _, Nat.le_refl _⟩ dL_law_645 (fun r_5 u H locs h hP hD hS => ?_)
  obtain ⟨c_6, c_7, c_8⟩ := u
  try dsimp only at h
  obtain ⟨ce2, e2⟩ : ∃ z : Nat → va_E, z = asg [69, 68, 70] [.inl (cy 0, (200, .inl c_6)), .inl (cy 0, (200, .inl c_7)), .inl (cy 0, (200, .inl c_8))] ce1 := ⟨_, rfl⟩
  have hP : va_P D vwCl (fw q ce2) H := by rw [e2]; exact hP
  have hD : va_D A (fw q ce2) := by rw [e2]; exact hD
  have hni : ∀ k, k ∉ ([69, 68, 70] : List Nat) → ce2 k = ce1 k := fun k hk => (congrFun e2 k).trans (asg_out hk)
  have k0 := (hni 0 (show 0 ∉ ([69, 68, 70] : List Nat) by decide)).trans k0
  have k1 := (hni 1 (show 1 ∉ ([69, 68, 70] : List Nat) by decide)).trans k1
  have k2 := (hni 2 (show 2 ∉ ([69, 68, 70] : List Nat) by decide)).trans k2
  have kS := gSh.mono (fun k h1 h2 => hni k (by simp only [List.mem_cons, List.not_mem_nil, or_false]; omega)) kS
  have kY := gYr.mono (fun k h1 h2 => hni k (by simp only [List.mem_cons, List.not_mem_nil, or_false]; omega)) kY
  have kT := gTp.mono (fun k h1 h2 => hni k (by simp only [List.mem_cons, List.not_mem_nil, or_false]; omega)) kT
  have kJ := gJt.mono (fun k h1 h2 => hni k (by simp only [List.mem_cons, List.not_mem_nil, or_false]; omega)) kJ
  have kF := gFi.mono (fun k h1 h2 => hni k (by simp only [List.mem_cons, List.not_mem_nil, or_false]; omega)) kF
  have kR := gRo.mono (fun k h1 h2 => hni k (by simp only [List.mem_cons, List.not_mem_nil, or_false]; omega)) kR
  have kL := gLi.mono (fun k h1 h2 => hni k (by simp only [List.mem_cons, List.not_mem_nil, or_false]; omega)) kL
  have kG := gGr.mono (fun k h1 h2 => hni k (by simp only [List.mem_cons, List.not_mem_nil, or_false]; omega)) kG
  have k58 := (hni 58 (show 58 ∉ ([69, 68, 70] : List Nat) by decide)).trans k58
  have k59 := (hni 59 (show 59 ∉ ([69, 68, 70] : List Nat) by decide)).trans k59
  have k60 := (hni 60 (show 60 ∉ ([69, 68, 70] : List Nat) by decide)).trans k60
  have k61 := (hni 61 (show 61 ∉ ([69, 68, 70] : List Nat) by decide)).trans k61
  have k62 := (hni 62 (show 62 ∉ ([69, 68, 70] : List Nat) by decide)).trans k62
  have k63 := (hni 63 (show 63 ∉ ([69, 68, 70] : List Nat) by decide)).trans k63
  have k64 := (hni 64 (show 64 ∉ ([69, 68, 70] : List Nat) by decide)).trans k64
  have k65 := (hni 65 (show 65 ∉ ([69, 68, 70] : List Nat) by decide)).trans k65
  have k66 := (hni 66 (show 66 ∉ ([69, 68, 70] : List Nat) by decide)).trans k66
  have k67 := (hni 67 (show 67 ∉ ([69, 68, 70] : List Nat) by decide)).trans k67
  have k68 := (congrFun e2 68).trans (asg_at 1 hnM rfl rfl)
  have k69 := (congrFun e2 69).trans (asg_at 0 hnM rfl rfl)
  have k70 := (congrFun e2 70).trans (asg_at 2 hnM rfl rfl)
  have k71 := (hni 71 (show 71 ∉ ([69, 68, 70] : List Nat) by decide)).trans k71
  have k72 := (hni 72 (show 72 ∉ ([69, 68, 70] : List Nat) by decide)).trans k72
  have k73 := (hni 73 (show 73 ∉ ([69, 68, 70] : List Nat) by decide)).trans k73
  have k74 := (hni 74 (show 74 ∉ ([69, 68, 70] : List Nat) by decide)).trans k74
  have k75 := (hni 75 (show 75 ∉ ([69, 68, 70] : List Nat) by decide)).trans k75
  have k76 := (hni 76 (show 76 ∉ ([69, 68, 70] : List Nat) by decide)).trans k76
  have k77 := (hni 77 (show 77 ∉ ([69, 68, 70] : List Nat) by decide)).trans k77
  have k78 := (hni 78 (show 78 ∉ ([69, 68, 70] : List Nat) by decide)).trans k78
  have k79 := (hni 79 (show 79 ∉ ([69, 68, 70] : List Nat) by decide)).trans k79
  have k80 := (hni 80 (show 80 ∉ ([69, 68, 70] : List Nat) by decide)).trans k80
  have k81 := (hni 81 (show 81 ∉ ([69, 68, 70] : List Nat) by decide)).trans k81
  have k82 := (hni 82 (show 82 ∉ ([69, 68, 70] : List Nat) by decide)).trans k82
  have k83 := (hni 83 (show 83 ∉ ([69, 68, 70] : List Nat) by decide)).trans k83
  refine lv_icmp_eq (tgt := 1060) hx hb dL_law_648 (by decide) (fun c_ => ?_) (fun c_ => absurd h.1 c_)
  exact next H locs ⟨ce2, _, _, _, _, _, _, _, _, _, _, _, _, _, _, _, _, _, _, _, _, _, _, _, _, _, _, _, _, _, _, ⟨k0, k1, k2⟩, kS, kY, kT, kJ, kF, kR, kL, kG, ⟨_, _, _, _, _, _, _, _, _, _, _, _, _, _, _, k58, k59, k60, k61, k62, k63, k64, k65, k66, k67, k68, k69, k70, k71, k72, k73, k74, k75, k76, k77, k78, k79, k80, k81, k82, k83⟩, h.2, hP, hD, hS⟩ ls hl
