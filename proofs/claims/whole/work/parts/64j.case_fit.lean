set_option maxHeartbeats 4000000 in
set_option maxRecDepth 20000 in
theorem law_fit {p : Program} {l : Launch} {e : Env} {s : State} {m : MethodId} {below : List Frame} {meth : Method} {c : Code} {b L : Nat} {xs : Nat → Int32} {A : Nat → Prop} {Qf : State → Prop} {D : va_G} {cy : Nat → ClassId} {q : Nat → Nat} {gS gY gF : Nat → Option Nat} (hx : p.tables.exec = Jvm.exec) (hb : c.code = cL_law) (hml : c.maxLocals = 4) (hown : s.vm.findClass RL = some m.cls) (hts : ∀ w ∈ wsL_law, w.before #[Value.ref b] s = true) (hKK : py_K D cy s) (hX : va_X b L xs s s.heap) (hbl : b < s.heap.size) (hbA : ¬ A b) (hA : ∀ q : Nat, s.heap.size ≤ q → A q) (hgS : ∀ t, t < 4 → gS t = some (q (3 + 2 * t))) (hgY : ∀ t, t < 2 → gY t = some (q (11 + 10 * t))) (hgF0 : gF 0 = some (q 41)) (hgF1 : gF 1 = some (q 42)) (hgF2 : gF 2 = some (q 43)) (j : Nat) (hj : j + 6 ≤ L) (hL : L ≤ 3072) (H : Heap) (locs : List Loc) (hw : LWd D cy q gS gY gF A s H locs) (ls : Array Slot) (hl : lv_has ls 4 [(0, .ref b), (1, .ref (q 0)), (2, .ref (q 58)), (3, .int (nI j))])
    (next : ∀ (H : Heap) (locs : List Loc), LWd D cy q gS gY gF A s H locs → ∀ (ls : Array Slot), lv_has ls 4 [(0, .ref b), (1, .ref (q 0)), (2, .ref (q 58)), (3, .int (nI j))] → W p l e room_1 s m #[Value.ref b] below meth c H locs 600000 7302250 Qf (F0 m 1060 ls [])) : W p l e room_1 s m #[Value.ref b] below meth c H locs 600000 7302250 Qf (F0 m 563 ls []) := by
  obtain ⟨ce, lane, size, items, ysz, yx, yy, yz, yst, ykd, ybh, yrd, ysh, ylo, tn, tb, mla, msi, mit, mma, mpx, mpy, mpz, mst, mkd, mbh, mrd, mlo, msh, mtp, mtd, kX, kS, kY, kT, kJ, kF, kR, kL, kG, kM, hR, hP, hD, hS⟩ := hw
  have i1 := py_ix (k := 1) (y := (1 : Int32)) hj hL (by decide) (by decide)
  obtain ⟨k0, k1, k2⟩ := kX
  obtain ⟨fpo, ffo, fl0, fl1, fl2, fri, k38, k39, k40, k41, k42, k43, k44, k45⟩ := kF
  obtain ⟨msp, mmx, mri, mfo, mhi, mne, mce, mpa, mbe, mwh, mnu, mhs, mat, mfa, mss, k58, k59, k60, k61, k62, k63, k64, k65, k66, k67, k68, k69, k70, k71, k72, k73, k74, k75, k76, k77, k78, k79, k80, k81, k82, k83⟩ := kM
  have h : lw_fit lane size items ysz yx yy yz yst ykd ybh yrd ysh ylo tn tb mla msi mit mma mpx mpy mpz mst mkd mbh mrd mlo msh mtp mtd fpo ffo fl0 fl1 fl2 fri mmx mri mfo (xs (j + 1)) RR := t_fit hR fpo ffo fl0 fl1 fl2 fri mmx mri mfo (xs (j + 1))
  unfold lw_fit at h
  obtain ⟨w_yr, hw_w_yr, h⟩ := h
  refine lv_aload_n hx hb dL_law_563 rfl (lv_at hl 1 rfl) ?_
  refine lv_aload_n hx hb dL_law_564 rfl (lv_at hl 0 rfl) ?_
  refine lv_iload_n hx hb dL_law_565 rfl (lv_at hl 3 rfl) ?_
  refine lv_iconst (v := (1 : Int32)) hx hb dL_law_566 (by decide) ?_
  refine lv_iadd hx hb dL_law_567 ?_
  refine py_sld hx hb hX hbl hbA hS (k := j + 1) i1.1 i1.2 dL_law_568 ?_
  have hnM : ([39, 41, 42, 43, 44, 45, (19 + 10 * w_yr)] : List Nat).Nodup := (show ∀ w_yr : Nat, w_yr < 2 → ([39, 41, 42, 43, 44, 45, (19 + 10 * w_yr)] : List Nat).Nodup by decide) w_yr hw_w_yr
  refine fw_wi (T := (Nat → Int32) × (Nat → Int64) × (Nat → Int64) × (Nat → Int64) × (Nat → Int64) × (Nat → Int32) × (Nat → Int32)) (As := [.int (xs (j + 1))]) ⟨hx, hb, hml, hown, hts⟩ hKK hP hD hS hA [0, 2, (11 + 10 * w_yr), 38, 39, (15 + 10 * w_yr), 40, 41, 42, 43, 44, (12 + 10 * w_yr), (13 + 10 * w_yr), (14 + 10 * w_yr), 45, (19 + 10 * w_yr)] ((show ∀ w_yr : Nat, w_yr < 2 → ∀ i ∈ ([0, 2, (11 + 10 * w_yr), 38, 39, (15 + 10 * w_yr), 40, 41, 42, 43, 44, (12 + 10 * w_yr), (13 + 10 * w_yr), (14 + 10 * w_yr), 45, (19 + 10 * w_yr)] : List Nat), i < 84 by decide) w_yr hw_w_yr) ((show ∀ w_yr : Nat, w_yr < 2 → ([0, 2, (11 + 10 * w_yr), 38, 39, (15 + 10 * w_yr), 40, 41, 42, 43, 44, (12 + 10 * w_yr), (13 + 10 * w_yr), (14 + 10 * w_yr), 45, (19 + 10 * w_yr)] : List Nat).Nodup by decide) w_yr hw_w_yr) (vs := [.inr (8, [.ref (q 1), .ref (q 2), .ref (q 31), .ref (q 33), .ref (q 38), .ref (q 46), .ref (q 51), .ref (q 54), .ref (q 56)]), .inl (cy 5, (2, .inr (.inr (.inr (.inr gY))))), .inr (7, [.ref (q (12 + 10 * w_yr)), .ref (q (13 + 10 * w_yr)), .ref (q (14 + 10 * w_yr)), .ref (q (15 + 10 * w_yr)), .ref (q (16 + 10 * w_yr)), .ref (q (17 + 10 * w_yr)), .ref (q (18 + 10 * w_yr)), .ref (q (19 + 10 * w_yr)), .ref (q (20 + 10 * w_yr)), .int (ysz w_yr)]), .inr (0, [.ref (q 39), .ref (q 40), .ref (q 44), .ref (q 45)]), .inl (cy 0, (4, .inl fpo)), .inl (cy 0, (100, .inl (yst w_yr))), .inl (cy 6, (3, .inr (.inr (.inr (.inr gF))))), .inl (cy 3, (3, .inr (.inl fl0))), .inl (cy 3, (3, .inr (.inl fl1))), .inl (cy 3, (3, .inr (.inl fl2))), .inl (cy 3, (3, .inr (.inl fri))), .inl (cy 0, (100, .inl (yx w_yr))), .inl (cy 0, (100, .inl (yy w_yr))), .inl (cy 0, (100, .inl (yz w_yr))), .inl (cy 0, (3, .inl ffo)), .inl (cy 0, (4, .inl (ysh w_yr)))]) (lc k0 (lc k2 (lc (kY w_yr hw_w_yr).1 (lc k38 (lc k39 (lc (kY w_yr hw_w_yr).2.2.2.2.1 (lc k40 (lc k41 (lc k42 (lc k43 (lc k44 (lc (kY w_yr hw_w_yr).2.1 (lc (kY w_yr hw_w_yr).2.2.1 (lc (kY w_yr hw_w_yr).2.2.2.1 (lc k45 (lc (kY w_yr hw_w_yr).2.2.2.2.2.2.2.2.1 rfl)))))))))))))))) rfl 0 8 (by decide) rfl k0 [39, 41, 42, 43, 44, 45, (19 + 10 * w_yr)] ((show ∀ w_yr : Nat, w_yr < 2 → ∀ i ∈ ([39, 41, 42, 43, 44, 45, (19 + 10 * w_yr)] : List Nat), i ∈ ([0, 2, (11 + 10 * w_yr), 38, 39, (15 + 10 * w_yr), 40, 41, 42, 43, 44, (12 + 10 * w_yr), (13 + 10 * w_yr), (14 + 10 * w_yr), 45, (19 + 10 * w_yr)] : List Nat) by decide) w_yr hw_w_yr) (fun (u : (Nat → Int32) × (Nat → Int64) × (Nat → Int64) × (Nat → Int64) × (Nat → Int64) × (Nat → Int32) × (Nat → Int32)) => [.inl (cy 0, (4, .inl u.1)), .inl (cy 3, (3, .inr (.inl u.2.1))), .inl (cy 3, (3, .inr (.inl u.2.2.1))), .inl (cy 3, (3, .inr (.inl u.2.2.2.1))), .inl (cy 3, (3, .inr (.inl u.2.2.2.2.1))), .inl (cy 0, (3, .inl u.2.2.2.2.2.1)), .inl (cy 0, (4, .inl u.2.2.2.2.2.2))]) (fun (u : (Nat → Int32) × (Nat → Int64) × (Nat → Int64) × (Nat → Int64) × (Nat → Int64) × (Nat → Int32) × (Nat → Int32)) => [.inr (8, [.ref (q 1), .ref (q 2), .ref (q 31), .ref (q 33), .ref (q 38), .ref (q 46), .ref (q 51), .ref (q 54), .ref (q 56)]), .inl (cy 5, (2, .inr (.inr (.inr (.inr gY))))), .inr (7, [.ref (q (12 + 10 * w_yr)), .ref (q (13 + 10 * w_yr)), .ref (q (14 + 10 * w_yr)), .ref (q (15 + 10 * w_yr)), .ref (q (16 + 10 * w_yr)), .ref (q (17 + 10 * w_yr)), .ref (q (18 + 10 * w_yr)), .ref (q (19 + 10 * w_yr)), .ref (q (20 + 10 * w_yr)), .int (ysz w_yr)]), .inr (0, [.ref (q 39), .ref (q 40), .ref (q 44), .ref (q 45)]), .inl (cy 0, (4, .inl u.1)), .inl (cy 0, (100, .inl (yst w_yr))), .inl (cy 6, (3, .inr (.inr (.inr (.inr gF))))), .inl (cy 3, (3, .inr (.inl u.2.1))), .inl (cy 3, (3, .inr (.inl u.2.2.1))), .inl (cy 3, (3, .inr (.inl u.2.2.2.1))), .inl (cy 3, (3, .inr (.inl u.2.2.2.2.1))), .inl (cy 0, (100, .inl (yx w_yr))), .inl (cy 0, (100, .inl (yy w_yr))), .inl (cy 0, (100, .inl (yz w_yr))), .inl (cy 0, (3, .inl u.2.2.2.2.2.1)), .inl (cy 0, (4, .inl u.2.2.2.2.2.2))]) (fun u => (lc ((asg_out ((show ∀ w_yr : Nat, w_yr < 2 → 0 ∉ ([39, 41, 42, 43, 44, 45, (19 + 10 * w_yr)] : List Nat) by decide) w_yr hw_w_yr)).trans k0) (lc ((asg_out ((show ∀ w_yr : Nat, w_yr < 2 → 2 ∉ ([39, 41, 42, 43, 44, 45, (19 + 10 * w_yr)] : List Nat) by decide) w_yr hw_w_yr)).trans k2) (lc ((asg_out ((show ∀ w_yr : Nat, w_yr < 2 → (11 + 10 * w_yr) ∉ ([39, 41, 42, 43, 44, 45, (19 + 10 * w_yr)] : List Nat) by decide) w_yr hw_w_yr)).trans (kY w_yr hw_w_yr).1) (lc ((asg_out ((show ∀ w_yr : Nat, w_yr < 2 → 38 ∉ ([39, 41, 42, 43, 44, 45, (19 + 10 * w_yr)] : List Nat) by decide) w_yr hw_w_yr)).trans k38) (lc (asg_at 0 hnM rfl rfl) (lc ((asg_out ((show ∀ w_yr : Nat, w_yr < 2 → (15 + 10 * w_yr) ∉ ([39, 41, 42, 43, 44, 45, (19 + 10 * w_yr)] : List Nat) by decide) w_yr hw_w_yr)).trans (kY w_yr hw_w_yr).2.2.2.2.1) (lc ((asg_out ((show ∀ w_yr : Nat, w_yr < 2 → 40 ∉ ([39, 41, 42, 43, 44, 45, (19 + 10 * w_yr)] : List Nat) by decide) w_yr hw_w_yr)).trans k40) (lc (asg_at 1 hnM rfl rfl) (lc (asg_at 2 hnM rfl rfl) (lc (asg_at 3 hnM rfl rfl) (lc (asg_at 4 hnM rfl rfl) (lc ((asg_out ((show ∀ w_yr : Nat, w_yr < 2 → (12 + 10 * w_yr) ∉ ([39, 41, 42, 43, 44, 45, (19 + 10 * w_yr)] : List Nat) by decide) w_yr hw_w_yr)).trans (kY w_yr hw_w_yr).2.1) (lc ((asg_out ((show ∀ w_yr : Nat, w_yr < 2 → (13 + 10 * w_yr) ∉ ([39, 41, 42, 43, 44, 45, (19 + 10 * w_yr)] : List Nat) by decide) w_yr hw_w_yr)).trans (kY w_yr hw_w_yr).2.2.1) (lc ((asg_out ((show ∀ w_yr : Nat, w_yr < 2 → (14 + 10 * w_yr) ∉ ([39, 41, 42, 43, 44, 45, (19 + 10 * w_yr)] : List Nat) by decide) w_yr hw_w_yr)).trans (kY w_yr hw_w_yr).2.2.2.1) (lc (asg_at 5 hnM rfl rfl) (lc (asg_at 6 hnM rfl rfl) rfl))))))))))))))))) (fun _ => rfl) (c_X8_fit l D cy (q 1) (q 2) (q 31) (q 33) (q 38) (q 46) (q 51) (q 54) (q 56) (q 0) (q (12 + 10 * w_yr)) (q (13 + 10 * w_yr)) (q (14 + 10 * w_yr)) (q (15 + 10 * w_yr)) (q (16 + 10 * w_yr)) (q (17 + 10 * w_yr)) (q (18 + 10 * w_yr)) (q (19 + 10 * w_yr)) (q (20 + 10 * w_yr)) (q (11 + 10 * w_yr)) (q 39) (q 40) (q 44) (q 45) (q 41) (q 42) (q 43) gY gF w_yr hgF0 hgF1 hgF2 (hgY w_yr hw_w_yr) (ysz w_yr) fpo (yst w_yr) fl0 fl1 fl2 fri (yx w_yr) (yy w_yr) (yz w_yr) ffo (ysh w_yr) (xs (j + 1)) H.size _ h) (cwV 1 hts gL_law_X8_fit rfl rfl rfl cdv_X8_fit ⟨Nat.le_of_ble_eq_true rfl, Nat.le_of_ble_eq_true rfl⟩) rfl hl.1 rfl (Nat.le_of_ble_eq_true rfl) ⟨Nat.le_refl _, Nat.le_refl _⟩ dL_law_569 (fun r_1 u H locs h hP hD hS => ?_)
  obtain ⟨c_2, c_3, c_4, c_5, c_6, c_7, c_8⟩ := u
  try dsimp only at h
  obtain ⟨ce1, e1⟩ : ∃ z : Nat → va_E, z = asg [39, 41, 42, 43, 44, 45, (19 + 10 * w_yr)] [.inl (cy 0, (4, .inl c_2)), .inl (cy 3, (3, .inr (.inl c_3))), .inl (cy 3, (3, .inr (.inl c_4))), .inl (cy 3, (3, .inr (.inl c_5))), .inl (cy 3, (3, .inr (.inl c_6))), .inl (cy 0, (3, .inl c_7)), .inl (cy 0, (4, .inl c_8))] ce := ⟨_, rfl⟩
  have hP : va_P D vwCl (fw q ce1) H := by rw [e1]; exact hP
  have hD : va_D A (fw q ce1) := by rw [e1]; exact hD
  have hni : ∀ k, k ∉ ([39, 41, 42, 43, 44, 45, (19 + 10 * w_yr)] : List Nat) → ce1 k = ce k := fun k hk => (congrFun e1 k).trans (asg_out hk)
  have hm58 : ∀ k, 58 ≤ k → k ∉ ([39, 41, 42, 43, 44, 45, (19 + 10 * w_yr)] : List Nat) := by intro k hk; simp only [List.mem_cons, List.not_mem_nil, or_false]; omega
  have k0 := (hni 0 ((show ∀ w_yr : Nat, w_yr < 2 → 0 ∉ ([39, 41, 42, 43, 44, 45, (19 + 10 * w_yr)] : List Nat) by decide) w_yr hw_w_yr)).trans k0
  have k1 := (hni 1 ((show ∀ w_yr : Nat, w_yr < 2 → 1 ∉ ([39, 41, 42, 43, 44, 45, (19 + 10 * w_yr)] : List Nat) by decide) w_yr hw_w_yr)).trans k1
  have k2 := (hni 2 ((show ∀ w_yr : Nat, w_yr < 2 → 2 ∉ ([39, 41, 42, 43, 44, 45, (19 + 10 * w_yr)] : List Nat) by decide) w_yr hw_w_yr)).trans k2
  have kS := gSh.mono (fun k h1 h2 => hni k (by simp only [List.mem_cons, List.not_mem_nil, or_false]; omega)) kS
  have kY : gYr q cy ysz yx yy yz yst ykd ybh yrd (va_up ysh w_yr c_8) ylo ce1 := by
    intro t ht
    by_cases et : t = w_yr
    · rw [et]
      simp only [up_at]
      exact ⟨((hni _ ((show ∀ w_yr : Nat, w_yr < 2 → (11 + 10 * w_yr) ∉ ([39, 41, 42, 43, 44, 45, (19 + 10 * w_yr)] : List Nat) by decide) w_yr hw_w_yr)).trans (kY w_yr hw_w_yr).1), ((hni _ ((show ∀ w_yr : Nat, w_yr < 2 → (12 + 10 * w_yr) ∉ ([39, 41, 42, 43, 44, 45, (19 + 10 * w_yr)] : List Nat) by decide) w_yr hw_w_yr)).trans (kY w_yr hw_w_yr).2.1), ((hni _ ((show ∀ w_yr : Nat, w_yr < 2 → (13 + 10 * w_yr) ∉ ([39, 41, 42, 43, 44, 45, (19 + 10 * w_yr)] : List Nat) by decide) w_yr hw_w_yr)).trans (kY w_yr hw_w_yr).2.2.1), ((hni _ ((show ∀ w_yr : Nat, w_yr < 2 → (14 + 10 * w_yr) ∉ ([39, 41, 42, 43, 44, 45, (19 + 10 * w_yr)] : List Nat) by decide) w_yr hw_w_yr)).trans (kY w_yr hw_w_yr).2.2.2.1), ((hni _ ((show ∀ w_yr : Nat, w_yr < 2 → (15 + 10 * w_yr) ∉ ([39, 41, 42, 43, 44, 45, (19 + 10 * w_yr)] : List Nat) by decide) w_yr hw_w_yr)).trans (kY w_yr hw_w_yr).2.2.2.2.1), ((hni _ ((show ∀ w_yr : Nat, w_yr < 2 → (16 + 10 * w_yr) ∉ ([39, 41, 42, 43, 44, 45, (19 + 10 * w_yr)] : List Nat) by decide) w_yr hw_w_yr)).trans (kY w_yr hw_w_yr).2.2.2.2.2.1), ((hni _ ((show ∀ w_yr : Nat, w_yr < 2 → (17 + 10 * w_yr) ∉ ([39, 41, 42, 43, 44, 45, (19 + 10 * w_yr)] : List Nat) by decide) w_yr hw_w_yr)).trans (kY w_yr hw_w_yr).2.2.2.2.2.2.1), ((hni _ ((show ∀ w_yr : Nat, w_yr < 2 → (18 + 10 * w_yr) ∉ ([39, 41, 42, 43, 44, 45, (19 + 10 * w_yr)] : List Nat) by decide) w_yr hw_w_yr)).trans (kY w_yr hw_w_yr).2.2.2.2.2.2.2.1), ((congrFun e1 _).trans (asg_at 6 hnM rfl rfl)), ((hni _ ((show ∀ w_yr : Nat, w_yr < 2 → (20 + 10 * w_yr) ∉ ([39, 41, 42, 43, 44, 45, (19 + 10 * w_yr)] : List Nat) by decide) w_yr hw_w_yr)).trans (kY w_yr hw_w_yr).2.2.2.2.2.2.2.2.2)⟩
    · simp only [up_ne et]
      exact ⟨((hni _ (by simp only [List.mem_cons, List.not_mem_nil, or_false]; omega)).trans (kY t ht).1), ((hni _ (by simp only [List.mem_cons, List.not_mem_nil, or_false]; omega)).trans (kY t ht).2.1), ((hni _ (by simp only [List.mem_cons, List.not_mem_nil, or_false]; omega)).trans (kY t ht).2.2.1), ((hni _ (by simp only [List.mem_cons, List.not_mem_nil, or_false]; omega)).trans (kY t ht).2.2.2.1), ((hni _ (by simp only [List.mem_cons, List.not_mem_nil, or_false]; omega)).trans (kY t ht).2.2.2.2.1), ((hni _ (by simp only [List.mem_cons, List.not_mem_nil, or_false]; omega)).trans (kY t ht).2.2.2.2.2.1), ((hni _ (by simp only [List.mem_cons, List.not_mem_nil, or_false]; omega)).trans (kY t ht).2.2.2.2.2.2.1), ((hni _ (by simp only [List.mem_cons, List.not_mem_nil, or_false]; omega)).trans (kY t ht).2.2.2.2.2.2.2.1), ((hni _ (by simp only [List.mem_cons, List.not_mem_nil, or_false]; omega)).trans (kY t ht).2.2.2.2.2.2.2.2.1), ((hni _ (by simp only [List.mem_cons, List.not_mem_nil, or_false]; omega)).trans (kY t ht).2.2.2.2.2.2.2.2.2)⟩
  have kT := gTp.mono (fun k h1 h2 => hni k (by simp only [List.mem_cons, List.not_mem_nil, or_false]; omega)) kT
  have kJ := gJt.mono (fun k h1 h2 => hni k (by simp only [List.mem_cons, List.not_mem_nil, or_false]; omega)) kJ
  have k38 := (hni 38 ((show ∀ w_yr : Nat, w_yr < 2 → 38 ∉ ([39, 41, 42, 43, 44, 45, (19 + 10 * w_yr)] : List Nat) by decide) w_yr hw_w_yr)).trans k38
  have k39 := (congrFun e1 39).trans (asg_at 0 hnM rfl rfl)
  have k40 := (hni 40 ((show ∀ w_yr : Nat, w_yr < 2 → 40 ∉ ([39, 41, 42, 43, 44, 45, (19 + 10 * w_yr)] : List Nat) by decide) w_yr hw_w_yr)).trans k40
  have k41 := (congrFun e1 41).trans (asg_at 1 hnM rfl rfl)
  have k42 := (congrFun e1 42).trans (asg_at 2 hnM rfl rfl)
  have k43 := (congrFun e1 43).trans (asg_at 3 hnM rfl rfl)
  have k44 := (congrFun e1 44).trans (asg_at 4 hnM rfl rfl)
  have k45 := (congrFun e1 45).trans (asg_at 5 hnM rfl rfl)
  have kR := gRo.mono (fun k h1 h2 => hni k (by simp only [List.mem_cons, List.not_mem_nil, or_false]; omega)) kR
  have kL := gLi.mono (fun k h1 h2 => hni k (by simp only [List.mem_cons, List.not_mem_nil, or_false]; omega)) kL
  have kG := gGr.mono (fun k h1 h2 => hni k (by simp only [List.mem_cons, List.not_mem_nil, or_false]; omega)) kG
  have k58 := (hni 58 (hm58 58 (by decide))).trans k58
  have k59 := (hni 59 (hm58 59 (by decide))).trans k59
  have k60 := (hni 60 (hm58 60 (by decide))).trans k60
  have k61 := (hni 61 (hm58 61 (by decide))).trans k61
  have k62 := (hni 62 (hm58 62 (by decide))).trans k62
  have k63 := (hni 63 (hm58 63 (by decide))).trans k63
  have k64 := (hni 64 (hm58 64 (by decide))).trans k64
  have k65 := (hni 65 (hm58 65 (by decide))).trans k65
  have k66 := (hni 66 (hm58 66 (by decide))).trans k66
  have k67 := (hni 67 (hm58 67 (by decide))).trans k67
  have k68 := (hni 68 (hm58 68 (by decide))).trans k68
  have k69 := (hni 69 (hm58 69 (by decide))).trans k69
  have k70 := (hni 70 (hm58 70 (by decide))).trans k70
  have k71 := (hni 71 (hm58 71 (by decide))).trans k71
  have k72 := (hni 72 (hm58 72 (by decide))).trans k72
  have k73 := (hni 73 (hm58 73 (by decide))).trans k73
  have k74 := (hni 74 (hm58 74 (by decide))).trans k74
  have k75 := (hni 75 (hm58 75 (by decide))).trans k75
  have k76 := (hni 76 (hm58 76 (by decide))).trans k76
  have k77 := (hni 77 (hm58 77 (by decide))).trans k77
  have k78 := (hni 78 (hm58 78 (by decide))).trans k78
  have k79 := (hni 79 (hm58 79 (by decide))).trans k79
  have k80 := (hni 80 (hm58 80 (by decide))).trans k80
  have k81 := (hni 81 (hm58 81 (by decide))).trans k81
  have k82 := (hni 82 (hm58 82 (by decide))).trans k82
  have k83 := (hni 83 (hm58 83 (by decide))).trans k83
  refine lv_aload_n hx hb dL_law_572 rfl (lv_at hl 2 rfl) ?_
  refine lv_aload_n hx hb dL_law_573 rfl (lv_at hl 0 rfl) ?_
  refine lv_iload_n hx hb dL_law_574 rfl (lv_at hl 3 rfl) ?_
  refine lv_iconst (v := (1 : Int32)) hx hb dL_law_575 (by decide) ?_
  refine lv_iadd hx hb dL_law_576 ?_
  refine py_sld hx hb hX hbl hbA hS (k := j + 1) i1.1 i1.2 dL_law_577 ?_
  have hnM : ([73, 74, 75, 72] : List Nat).Nodup := show ([73, 74, 75, 72] : List Nat).Nodup by decide
  refine fw_wi (T := (Nat → Int64) × (Nat → Int64) × (Nat → Int32) × (Nat → Int32)) (As := [.int (xs (j + 1))]) ⟨hx, hb, hml, hown, hts⟩ hKK hP hD hS hA [58, 63, 67, 73, 74, 64, 65, 66, 75, 72] (show ∀ i ∈ ([58, 63, 67, 73, 74, 64, 65, 66, 75, 72] : List Nat), i < 84 by decide) (show ([58, 63, 67, 73, 74, 64, 65, 66, 75, 72] : List Nat).Nodup by decide) (vs := [.inr (9, [.ref (q 59), .ref (q 60), .ref (q 61), .ref (q 62), .ref (q 63), .ref (q 64), .ref (q 65), .ref (q 66), .ref (q 67), .ref (q 68), .ref (q 69), .ref (q 70), .ref (q 71), .ref (q 72), .ref (q 73), .ref (q 74), .ref (q 75), .ref (q 76), .int mhs, .ref (q 77), .ref (q 78), .ref (q 79), .ref (q 80), .ref (q 81), .int mtd, .int mat, .int mfa, .int mss, .ref (q 82), .ref (q 83)]), .inl (cy 0, (2, .inl mma)), .inl (cy 0, (200, .inl mst)), .inl (cy 3, (9, .inr (.inl mmx))), .inl (cy 3, (3, .inr (.inl mri))), .inl (cy 0, (200, .inl mpx)), .inl (cy 0, (200, .inl mpy)), .inl (cy 0, (200, .inl mpz)), .inl (cy 0, (3, .inl mfo)), .inl (cy 0, (8, .inl msh))]) (lc k58 (lc k63 (lc k67 (lc k73 (lc k74 (lc k64 (lc k65 (lc k66 (lc k75 (lc k72 rfl)))))))))) rfl 58 9 (by decide) rfl k58 [73, 74, 75, 72] (show ∀ i ∈ ([73, 74, 75, 72] : List Nat), i ∈ ([58, 63, 67, 73, 74, 64, 65, 66, 75, 72] : List Nat) by decide) (fun (u : (Nat → Int64) × (Nat → Int64) × (Nat → Int32) × (Nat → Int32)) => [.inl (cy 3, (9, .inr (.inl u.1))), .inl (cy 3, (3, .inr (.inl u.2.1))), .inl (cy 0, (3, .inl u.2.2.1)), .inl (cy 0, (8, .inl u.2.2.2))]) (fun (u : (Nat → Int64) × (Nat → Int64) × (Nat → Int32) × (Nat → Int32)) => [.inr (9, [.ref (q 59), .ref (q 60), .ref (q 61), .ref (q 62), .ref (q 63), .ref (q 64), .ref (q 65), .ref (q 66), .ref (q 67), .ref (q 68), .ref (q 69), .ref (q 70), .ref (q 71), .ref (q 72), .ref (q 73), .ref (q 74), .ref (q 75), .ref (q 76), .int mhs, .ref (q 77), .ref (q 78), .ref (q 79), .ref (q 80), .ref (q 81), .int mtd, .int mat, .int mfa, .int mss, .ref (q 82), .ref (q 83)]), .inl (cy 0, (2, .inl mma)), .inl (cy 0, (200, .inl mst)), .inl (cy 3, (9, .inr (.inl u.1))), .inl (cy 3, (3, .inr (.inl u.2.1))), .inl (cy 0, (200, .inl mpx)), .inl (cy 0, (200, .inl mpy)), .inl (cy 0, (200, .inl mpz)), .inl (cy 0, (3, .inl u.2.2.1)), .inl (cy 0, (8, .inl u.2.2.2))]) (fun u => (lc ((asg_out (show 58 ∉ ([73, 74, 75, 72] : List Nat) by decide)).trans k58) (lc ((asg_out (show 63 ∉ ([73, 74, 75, 72] : List Nat) by decide)).trans k63) (lc ((asg_out (show 67 ∉ ([73, 74, 75, 72] : List Nat) by decide)).trans k67) (lc (asg_at 0 hnM rfl rfl) (lc (asg_at 1 hnM rfl rfl) (lc ((asg_out (show 64 ∉ ([73, 74, 75, 72] : List Nat) by decide)).trans k64) (lc ((asg_out (show 65 ∉ ([73, 74, 75, 72] : List Nat) by decide)).trans k65) (lc ((asg_out (show 66 ∉ ([73, 74, 75, 72] : List Nat) by decide)).trans k66) (lc (asg_at 2 hnM rfl rfl) (lc (asg_at 3 hnM rfl rfl) rfl))))))))))) (fun _ => rfl) (c_X9_fit l D cy (q 59) (q 60) (q 61) (q 62) (q 63) (q 64) (q 65) (q 66) (q 67) (q 68) (q 69) (q 70) (q 71) (q 72) (q 73) (q 74) (q 75) (q 76) (q 77) (q 78) (q 79) (q 80) (q 81) (q 82) (q 83) (q 58) mhs mtd mat mfa mss mma mst mmx mri mpx mpy mpz mfo msh (xs (j + 1)) H.size _ h) (cwV 1 hts gL_law_X9_fit rfl rfl rfl cdv_X9_fit ⟨Nat.le_of_ble_eq_true rfl, Nat.le_of_ble_eq_true rfl⟩) rfl hl.1 rfl (Nat.le_of_ble_eq_true rfl) ⟨Nat.le_refl _, Nat.le_refl _⟩ dL_law_578 (fun r_9 u H locs h hP hD hS => ?_)
  obtain ⟨c_10, c_11, c_12, c_13⟩ := u
  try dsimp only at h
  obtain ⟨ce2, e2⟩ : ∃ z : Nat → va_E, z = asg [73, 74, 75, 72] [.inl (cy 3, (9, .inr (.inl c_10))), .inl (cy 3, (3, .inr (.inl c_11))), .inl (cy 0, (3, .inl c_12)), .inl (cy 0, (8, .inl c_13))] ce1 := ⟨_, rfl⟩
  have hP : va_P D vwCl (fw q ce2) H := by rw [e2]; exact hP
  have hD : va_D A (fw q ce2) := by rw [e2]; exact hD
  have hni : ∀ k, k ∉ ([73, 74, 75, 72] : List Nat) → ce2 k = ce1 k := fun k hk => (congrFun e2 k).trans (asg_out hk)
  have k0 := (hni 0 (show 0 ∉ ([73, 74, 75, 72] : List Nat) by decide)).trans k0
  have k1 := (hni 1 (show 1 ∉ ([73, 74, 75, 72] : List Nat) by decide)).trans k1
  have k2 := (hni 2 (show 2 ∉ ([73, 74, 75, 72] : List Nat) by decide)).trans k2
  have kS := gSh.mono (fun k h1 h2 => hni k (by simp only [List.mem_cons, List.not_mem_nil, or_false]; omega)) kS
  have kY := gYr.mono (fun k h1 h2 => hni k (by simp only [List.mem_cons, List.not_mem_nil, or_false]; omega)) kY
  have kT := gTp.mono (fun k h1 h2 => hni k (by simp only [List.mem_cons, List.not_mem_nil, or_false]; omega)) kT
  have kJ := gJt.mono (fun k h1 h2 => hni k (by simp only [List.mem_cons, List.not_mem_nil, or_false]; omega)) kJ
  have k38 := (hni 38 (show 38 ∉ ([73, 74, 75, 72] : List Nat) by decide)).trans k38
  have k39 := (hni 39 (show 39 ∉ ([73, 74, 75, 72] : List Nat) by decide)).trans k39
  have k40 := (hni 40 (show 40 ∉ ([73, 74, 75, 72] : List Nat) by decide)).trans k40
  have k41 := (hni 41 (show 41 ∉ ([73, 74, 75, 72] : List Nat) by decide)).trans k41
  have k42 := (hni 42 (show 42 ∉ ([73, 74, 75, 72] : List Nat) by decide)).trans k42
  have k43 := (hni 43 (show 43 ∉ ([73, 74, 75, 72] : List Nat) by decide)).trans k43
  have k44 := (hni 44 (show 44 ∉ ([73, 74, 75, 72] : List Nat) by decide)).trans k44
  have k45 := (hni 45 (show 45 ∉ ([73, 74, 75, 72] : List Nat) by decide)).trans k45
  have kR := gRo.mono (fun k h1 h2 => hni k (by simp only [List.mem_cons, List.not_mem_nil, or_false]; omega)) kR
  have kL := gLi.mono (fun k h1 h2 => hni k (by simp only [List.mem_cons, List.not_mem_nil, or_false]; omega)) kL
  have kG := gGr.mono (fun k h1 h2 => hni k (by simp only [List.mem_cons, List.not_mem_nil, or_false]; omega)) kG
  have k58 := (hni 58 (show 58 ∉ ([73, 74, 75, 72] : List Nat) by decide)).trans k58
  have k59 := (hni 59 (show 59 ∉ ([73, 74, 75, 72] : List Nat) by decide)).trans k59
  have k60 := (hni 60 (show 60 ∉ ([73, 74, 75, 72] : List Nat) by decide)).trans k60
  have k61 := (hni 61 (show 61 ∉ ([73, 74, 75, 72] : List Nat) by decide)).trans k61
  have k62 := (hni 62 (show 62 ∉ ([73, 74, 75, 72] : List Nat) by decide)).trans k62
  have k63 := (hni 63 (show 63 ∉ ([73, 74, 75, 72] : List Nat) by decide)).trans k63
  have k64 := (hni 64 (show 64 ∉ ([73, 74, 75, 72] : List Nat) by decide)).trans k64
  have k65 := (hni 65 (show 65 ∉ ([73, 74, 75, 72] : List Nat) by decide)).trans k65
  have k66 := (hni 66 (show 66 ∉ ([73, 74, 75, 72] : List Nat) by decide)).trans k66
  have k67 := (hni 67 (show 67 ∉ ([73, 74, 75, 72] : List Nat) by decide)).trans k67
  have k68 := (hni 68 (show 68 ∉ ([73, 74, 75, 72] : List Nat) by decide)).trans k68
  have k69 := (hni 69 (show 69 ∉ ([73, 74, 75, 72] : List Nat) by decide)).trans k69
  have k70 := (hni 70 (show 70 ∉ ([73, 74, 75, 72] : List Nat) by decide)).trans k70
  have k71 := (hni 71 (show 71 ∉ ([73, 74, 75, 72] : List Nat) by decide)).trans k71
  have k72 := (congrFun e2 72).trans (asg_at 3 hnM rfl rfl)
  have k73 := (congrFun e2 73).trans (asg_at 0 hnM rfl rfl)
  have k74 := (congrFun e2 74).trans (asg_at 1 hnM rfl rfl)
  have k75 := (congrFun e2 75).trans (asg_at 2 hnM rfl rfl)
  have k76 := (hni 76 (show 76 ∉ ([73, 74, 75, 72] : List Nat) by decide)).trans k76
  have k77 := (hni 77 (show 77 ∉ ([73, 74, 75, 72] : List Nat) by decide)).trans k77
  have k78 := (hni 78 (show 78 ∉ ([73, 74, 75, 72] : List Nat) by decide)).trans k78
  have k79 := (hni 79 (show 79 ∉ ([73, 74, 75, 72] : List Nat) by decide)).trans k79
  have k80 := (hni 80 (show 80 ∉ ([73, 74, 75, 72] : List Nat) by decide)).trans k80
  have k81 := (hni 81 (show 81 ∉ ([73, 74, 75, 72] : List Nat) by decide)).trans k81
  have k82 := (hni 82 (show 82 ∉ ([73, 74, 75, 72] : List Nat) by decide)).trans k82
  have k83 := (hni 83 (show 83 ∉ ([73, 74, 75, 72] : List Nat) by decide)).trans k83
  refine lv_icmp_eq (tgt := 1060) hx hb dL_law_581 (by decide) (fun c_ => ?_) (fun c_ => absurd h.1 c_)
  exact next H locs ⟨ce2, _, _, _, _, _, _, _, _, _, _, _, _, _, _, _, _, _, _, _, _, _, _, _, _, _, _, _, _, _, _, ⟨k0, k1, k2⟩, kS, kY, kT, kJ, ⟨_, _, _, _, _, _, k38, k39, k40, k41, k42, k43, k44, k45⟩, kR, kL, kG, ⟨_, _, _, _, _, _, _, _, _, _, _, _, _, _, _, k58, k59, k60, k61, k62, k63, k64, k65, k66, k67, k68, k69, k70, k71, k72, k73, k74, k75, k76, k77, k78, k79, k80, k81, k82, k83⟩, h.2, hP, hD, hS⟩ ls hl
