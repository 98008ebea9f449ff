set_option maxHeartbeats 4000000 in
set_option maxRecDepth 20000 in
theorem law_sheet {p : Program} {l : Launch} {e : Env} {s : State} {m : MethodId} {below : List Frame} {meth : Method} {c : Code} {b L : Nat} {xs : Nat → Int32} {A : Nat → Prop} {Qf : State → Prop} {D : va_G} {cy : Nat → ClassId} {q : Nat → Nat} {gS gY gF : Nat → Option Nat} (hx : p.tables.exec = Jvm.exec) (hb : c.code = cL_law) (hml : c.maxLocals = 4) (hown : s.vm.findClass RL = some m.cls) (hts : ∀ w ∈ wsL_law, w.before #[Value.ref b] s = true) (hKK : py_K D cy s) (hX : va_X b L xs s s.heap) (hbl : b < s.heap.size) (hbA : ¬ A b) (hA : ∀ q : Nat, s.heap.size ≤ q → A q) (hgS : ∀ t, t < 4 → gS t = some (q (3 + 2 * t))) (hgY : ∀ t, t < 2 → gY t = some (q (11 + 10 * t))) (hgF0 : gF 0 = some (q 41)) (hgF1 : gF 1 = some (q 42)) (hgF2 : gF 2 = some (q 43)) (j : Nat) (hj : j + 6 ≤ L) (hL : L ≤ 3072) (H : Heap) (locs : List Loc) (hw : LWd D cy q gS gY gF A s H locs) (ls : Array Slot) (hl : lv_has ls 4 [(0, .ref b), (1, .ref (q 0)), (2, .ref (q 58)), (3, .int (nI j))])
    (next : ∀ (H : Heap) (locs : List Loc), LWd D cy q gS gY gF A s H locs → ∀ (ls : Array Slot), lv_has ls 4 [(0, .ref b), (1, .ref (q 0)), (2, .ref (q 58)), (3, .int (nI j))] → W p l e room_1 s m #[Value.ref b] below meth c H locs 600000 7302250 Qf (F0 m 1060 ls [])) : W p l e room_1 s m #[Value.ref b] below meth c H locs 600000 7302250 Qf (F0 m 136 ls []) := by
  obtain ⟨ce, lane, size, items, ysz, yx, yy, yz, yst, ykd, ybh, yrd, ysh, ylo, tn, tb, mla, msi, mit, mma, mpx, mpy, mpz, mst, mkd, mbh, mrd, mlo, msh, mtp, mtd, kX, kS, kY, kT, kJ, kF, kR, kL, kG, kM, hR, hP, hD, hS⟩ := hw
  have i1 := py_ix (k := 1) (y := (1 : Int32)) hj hL (by decide) (by decide)
  have i2 := py_ix (k := 2) (y := (2 : Int32)) hj hL (by decide) (by decide)
  have i3 := py_ix (k := 3) (y := (3 : Int32)) hj hL (by decide) (by decide)
  obtain ⟨k0, k1, k2⟩ := kX
  obtain ⟨msp, mmx, mri, mfo, mhi, mne, mce, mpa, mbe, mwh, mnu, mhs, mat, mfa, mss, k58, k59, k60, k61, k62, k63, k64, k65, k66, k67, k68, k69, k70, k71, k72, k73, k74, k75, k76, k77, k78, k79, k80, k81, k82, k83⟩ := kM
  have h : lw_sheet lane size items ysz yx yy yz yst ykd ybh yrd ysh ylo tn tb mla msi mit mma mpx mpy mpz mst mkd mbh mrd mlo msh mtp mtd (xs (j + 1)) (xs (j + 2)) (xs (j + 3)) RR := t_sheet hR  (xs (j + 1)) (xs (j + 2)) (xs (j + 3))
  unfold lw_sheet at h
  obtain ⟨w_sh, hw_w_sh, h⟩ := h
  refine lv_aload_n hx hb dL_law_136 rfl (lv_at hl 1 rfl) ?_
  refine lv_aload_n hx hb dL_law_137 rfl (lv_at hl 0 rfl) ?_
  refine lv_iload_n hx hb dL_law_138 rfl (lv_at hl 3 rfl) ?_
  refine lv_iconst (v := (1 : Int32)) hx hb dL_law_139 (by decide) ?_
  refine lv_iadd hx hb dL_law_140 ?_
  refine py_sld hx hb hX hbl hbA hS (k := j + 1) i1.1 i1.2 dL_law_141 ?_
  refine lv_aload_n hx hb dL_law_142 rfl (lv_at hl 0 rfl) ?_
  refine lv_iload_n hx hb dL_law_143 rfl (lv_at hl 3 rfl) ?_
  refine lv_iconst (v := (2 : Int32)) hx hb dL_law_144 (by decide) ?_
  refine lv_iadd hx hb dL_law_145 ?_
  refine py_sld hx hb hX hbl hbA hS (k := j + 2) i2.1 i2.2 dL_law_146 ?_
  refine lv_aload_n hx hb dL_law_147 rfl (lv_at hl 0 rfl) ?_
  refine lv_iload_n hx hb dL_law_148 rfl (lv_at hl 3 rfl) ?_
  refine lv_iconst (v := (3 : Int32)) hx hb dL_law_149 (by decide) ?_
  refine lv_iadd hx hb dL_law_150 ?_
  refine py_sld hx hb hX hbl hbA hS (k := j + 3) i3.1 i3.2 dL_law_151 ?_
  have hnM : ([(3 + 2 * w_sh), (4 + 2 * w_sh)] : List Nat).Nodup := (show ∀ w_sh : Nat, w_sh < 4 → ([(3 + 2 * w_sh), (4 + 2 * w_sh)] : List Nat).Nodup by decide) w_sh hw_w_sh
  refine fw_wi (T := Int32 × Int32 × (Nat → Int32)) (As := [.int (xs (j + 1)), .int (xs (j + 2)), .int (xs (j + 3))]) ⟨hx, hb, hml, hown, hts⟩ hKK hP hD hS hA [0, 1, (3 + 2 * w_sh), (4 + 2 * w_sh)] ((show ∀ w_sh : Nat, w_sh < 4 → ∀ i ∈ ([0, 1, (3 + 2 * w_sh), (4 + 2 * w_sh)] : List Nat), i < 84 by decide) w_sh hw_w_sh) ((show ∀ w_sh : Nat, w_sh < 4 → ([0, 1, (3 + 2 * w_sh), (4 + 2 * w_sh)] : List Nat).Nodup by decide) w_sh hw_w_sh) (vs := [.inr (8, [.ref (q 1), .ref (q 2), .ref (q 31), .ref (q 33), .ref (q 38), .ref (q 46), .ref (q 51), .ref (q 54), .ref (q 56)]), .inl (cy 4, (4, .inr (.inr (.inr (.inr gS))))), .inr (5, [.ref (q (4 + 2 * w_sh)), .int (lane w_sh), .int (size w_sh)]), .inl (cy 0, (40, .inl (items w_sh)))]) (lc k0 (lc k1 (lc (kS w_sh hw_w_sh).1 (lc (kS w_sh hw_w_sh).2 rfl)))) rfl 0 8 (by decide) rfl k0 [(3 + 2 * w_sh), (4 + 2 * w_sh)] ((show ∀ w_sh : Nat, w_sh < 4 → ∀ i ∈ ([(3 + 2 * w_sh), (4 + 2 * w_sh)] : List Nat), i ∈ ([0, 1, (3 + 2 * w_sh), (4 + 2 * w_sh)] : List Nat) by decide) w_sh hw_w_sh) (fun (u : Int32 × Int32 × (Nat → Int32)) => [.inr (5, [.ref (q (4 + 2 * w_sh)), .int u.1, .int u.2.1]), .inl (cy 0, (40, .inl u.2.2))]) (fun (u : Int32 × Int32 × (Nat → Int32)) => [.inr (8, [.ref (q 1), .ref (q 2), .ref (q 31), .ref (q 33), .ref (q 38), .ref (q 46), .ref (q 51), .ref (q 54), .ref (q 56)]), .inl (cy 4, (4, .inr (.inr (.inr (.inr gS))))), .inr (5, [.ref (q (4 + 2 * w_sh)), .int u.1, .int u.2.1]), .inl (cy 0, (40, .inl u.2.2))]) (fun u => (lc ((asg_out ((show ∀ w_sh : Nat, w_sh < 4 → 0 ∉ ([(3 + 2 * w_sh), (4 + 2 * w_sh)] : List Nat) by decide) w_sh hw_w_sh)).trans k0) (lc ((asg_out ((show ∀ w_sh : Nat, w_sh < 4 → 1 ∉ ([(3 + 2 * w_sh), (4 + 2 * w_sh)] : List Nat) by decide) w_sh hw_w_sh)).trans k1) (lc (asg_at 0 hnM rfl rfl) (lc (asg_at 1 hnM rfl rfl) rfl))))) (fun _ => rfl) (c_X8_sheet l D cy (q 1) (q 2) (q 31) (q 33) (q 38) (q 46) (q 51) (q 54) (q 56) (q 0) (q (4 + 2 * w_sh)) (q (3 + 2 * w_sh)) gS w_sh (hgS w_sh hw_w_sh) (lane w_sh) (size w_sh) (items w_sh) (xs (j + 1)) (xs (j + 2)) (xs (j + 3)) H.size _ h) (cwV 3 hts gL_law_X8_sheet rfl rfl rfl cdv_X8_sheet ⟨Nat.le_of_ble_eq_true rfl, Nat.le_of_ble_eq_true rfl⟩) rfl hl.1 rfl (Nat.le_of_ble_eq_true rfl) ⟨Nat.le_refl _, Nat.le_refl _⟩ dL_law_152 (fun r_1 u H locs h hP hD hS => ?_)
  obtain ⟨c_2, c_3, c_4⟩ := u
  try dsimp only at h
  obtain ⟨ce1, e1⟩ : ∃ z : Nat → va_E, z = asg [(3 + 2 * w_sh), (4 + 2 * w_sh)] [.inr (5, [.ref (q (4 + 2 * w_sh)), .int c_2, .int c_3]), .inl (cy 0, (40, .inl c_4))] ce := ⟨_, rfl⟩
  have hP : va_P D vwCl (fw q ce1) H := by rw [e1]; exact hP
  have hD : va_D A (fw q ce1) := by rw [e1]; exact hD
  have hni : ∀ k, k ∉ ([(3 + 2 * w_sh), (4 + 2 * w_sh)] : List Nat) → ce1 k = ce k := fun k hk => (congrFun e1 k).trans (asg_out hk)
  have hm58 : ∀ k, 58 ≤ k → k ∉ ([(3 + 2 * w_sh), (4 + 2 * w_sh)] : List Nat) := by intro k hk; simp only [List.mem_cons, List.not_mem_nil, or_false]; omega
  have k0 := (hni 0 ((show ∀ w_sh : Nat, w_sh < 4 → 0 ∉ ([(3 + 2 * w_sh), (4 + 2 * w_sh)] : List Nat) by decide) w_sh hw_w_sh)).trans k0
  have k1 := (hni 1 ((show ∀ w_sh : Nat, w_sh < 4 → 1 ∉ ([(3 + 2 * w_sh), (4 + 2 * w_sh)] : List Nat) by decide) w_sh hw_w_sh)).trans k1
  have k2 := (hni 2 ((show ∀ w_sh : Nat, w_sh < 4 → 2 ∉ ([(3 + 2 * w_sh), (4 + 2 * w_sh)] : List Nat) by decide) w_sh hw_w_sh)).trans k2
  have kS : gSh q cy (va_up lane w_sh c_2) (va_up size w_sh c_3) (va_up items w_sh c_4) ce1 := by
    intro t ht
    by_cases et : t = w_sh
    · rw [et]
      simp only [up_at]
      exact ⟨((congrFun e1 _).trans (asg_at 0 hnM rfl rfl)), ((congrFun e1 _).trans (asg_at 1 hnM rfl rfl))⟩
    · simp only [up_ne et]
      exact ⟨((hni _ (by simp only [List.mem_cons, List.not_mem_nil, or_false]; omega)).trans (kS t ht).1), ((hni _ (by simp only [List.mem_cons, List.not_mem_nil, or_false]; omega)).trans (kS t ht).2)⟩
  have kY := gYr.mono (fun k h1 h2 => hni k (by simp only [List.mem_cons, List.not_mem_nil, or_false]; omega)) kY
  have kT := gTp.mono (fun k h1 h2 => hni k (by simp only [List.mem_cons, List.not_mem_nil, or_false]; omega)) kT
  have kJ := gJt.mono (fun k h1 h2 => hni k (by simp only [List.mem_cons, List.not_mem_nil, or_false]; omega)) kJ
  have kF := gFi.mono (fun k h1 h2 => hni k (by simp only [List.mem_cons, List.not_mem_nil, or_false]; omega)) kF
  have kR := gRo.mono (fun k h1 h2 => hni k (by simp only [List.mem_cons, List.not_mem_nil, or_false]; omega)) kR
  have kL := gLi.mono (fun k h1 h2 => hni k (by simp only [List.mem_cons, List.not_mem_nil, or_false]; omega)) kL
  have kG := gGr.mono (fun k h1 h2 => hni k (by simp only [List.mem_cons, List.not_mem_nil, or_false]; omega)) kG
  have k58 := (hni 58 (hm58 58 (by decide))).trans k58
  have k59 := (hni 59 (hm58 59 (by decide))).trans k59
  have k60 := (hni 60 (hm58 60 (by decide))).trans k60
  have k61 := (hni 61 (hm58 61 (by decide))).trans k61
  have k62 := (hni 62 (hm58 62 (by decide))).trans k62
  have k63 := (hni 63 (hm58 63 (by decide))).trans k63
  have k64 := (hni 64 (hm58 64 (by decide))).trans k64
  have k65 := (hni 65 (hm58 65 (by decide))).trans k65
  have k66 := (hni 66 (hm58 66 (by decide))).trans k66
  have k67 := (hni 67 (hm58 67 (by decide))).trans k67
  have k68 := (hni 68 (hm58 68 (by decide))).trans k68
  have k69 := (hni 69 (hm58 69 (by decide))).trans k69
  have k70 := (hni 70 (hm58 70 (by decide))).trans k70
  have k71 := (hni 71 (hm58 71 (by decide))).trans k71
  have k72 := (hni 72 (hm58 72 (by decide))).trans k72
  have k73 := (hni 73 (hm58 73 (by decide))).trans k73
  have k74 := (hni 74 (hm58 74 (by decide))).trans k74
  have k75 := (hni 75 (hm58 75 (by decide))).trans k75
  have k76 := (hni 76 (hm58 76 (by decide))).trans k76
  have k77 := (hni 77 (hm58 77 (by decide))).trans k77
  have k78 := (hni 78 (hm58 78 (by decide))).trans k78
  have k79 := (hni 79 (hm58 79 (by decide))).trans k79
  have k80 := (hni 80 (hm58 80 (by decide))).trans k80
  have k81 := (hni 81 (hm58 81 (by decide))).trans k81
  have k82 := (hni 82 (hm58 82 (by decide))).trans k82
  have k83 := (hni 83 (hm58 83 (by decide))).trans k83
  refine lv_aload_n hx hb dL_law_155 rfl (lv_at hl 2 rfl) ?_
  refine lv_aload_n hx hb dL_law_156 rfl (lv_at hl 0 rfl) ?_
  refine lv_iload_n hx hb dL_law_157 rfl (lv_at hl 3 rfl) ?_
  refine lv_iconst (v := (1 : Int32)) hx hb dL_law_158 (by decide) ?_
  refine lv_iadd hx hb dL_law_159 ?_
  refine py_sld hx hb hX hbl hbA hS (k := j + 1) i1.1 i1.2 dL_law_160 ?_
  refine lv_aload_n hx hb dL_law_161 rfl (lv_at hl 0 rfl) ?_
  refine lv_iload_n hx hb dL_law_162 rfl (lv_at hl 3 rfl) ?_
  refine lv_iconst (v := (2 : Int32)) hx hb dL_law_163 (by decide) ?_
  refine lv_iadd hx hb dL_law_164 ?_
  refine py_sld hx hb hX hbl hbA hS (k := j + 2) i2.1 i2.2 dL_law_165 ?_
  refine lv_aload_n hx hb dL_law_166 rfl (lv_at hl 0 rfl) ?_
  refine lv_iload_n hx hb dL_law_167 rfl (lv_at hl 3 rfl) ?_
  refine lv_iconst (v := (3 : Int32)) hx hb dL_law_168 (by decide) ?_
  refine lv_iadd hx hb dL_law_169 ?_
  refine py_sld hx hb hX hbl hbA hS (k := j + 3) i3.1 i3.2 dL_law_170 ?_
  have hnM : ([59, 60, 61] : List Nat).Nodup := show ([59, 60, 61] : List Nat).Nodup by decide
  refine fw_wi (T := (Nat → Int32) × (Nat → Int32) × (Nat → Int32)) (As := [.int (xs (j + 1)), .int (xs (j + 2)), .int (xs (j + 3))]) ⟨hx, hb, hml, hown, hts⟩ hKK hP hD hS hA [58, 59, 60, 61] (show ∀ i ∈ ([58, 59, 60, 61] : List Nat), i < 84 by decide) (show ([58, 59, 60, 61] : List Nat).Nodup by decide) (vs := [.inr (9, [.ref (q 59), .ref (q 60), .ref (q 61), .ref (q 62), .ref (q 63), .ref (q 64), .ref (q 65), .ref (q 66), .ref (q 67), .ref (q 68), .ref (q 69), .ref (q 70), .ref (q 71), .ref (q 72), .ref (q 73), .ref (q 74), .ref (q 75), .ref (q 76), .int mhs, .ref (q 77), .ref (q 78), .ref (q 79), .ref (q 80), .ref (q 81), .int mtd, .int mat, .int mfa, .int mss, .ref (q 82), .ref (q 83)]), .inl (cy 0, (4, .inl mla)), .inl (cy 0, (4, .inl msi)), .inl (cy 0, (160, .inl mit))]) (lc k58 (lc k59 (lc k60 (lc k61 rfl)))) rfl 58 9 (by decide) rfl k58 [59, 60, 61] (show ∀ i ∈ ([59, 60, 61] : List Nat), i ∈ ([58, 59, 60, 61] : List Nat) by decide) (fun (u : (Nat → Int32) × (Nat → Int32) × (Nat → Int32)) => [.inl (cy 0, (4, .inl u.1)), .inl (cy 0, (4, .inl u.2.1)), .inl (cy 0, (160, .inl u.2.2))]) (fun (u : (Nat → Int32) × (Nat → Int32) × (Nat → Int32)) => [.inr (9, [.ref (q 59), .ref (q 60), .ref (q 61), .ref (q 62), .ref (q 63), .ref (q 64), .ref (q 65), .ref (q 66), .ref (q 67), .ref (q 68), .ref (q 69), .ref (q 70), .ref (q 71), .ref (q 72), .ref (q 73), .ref (q 74), .ref (q 75), .ref (q 76), .int mhs, .ref (q 77), .ref (q 78), .ref (q 79), .ref (q 80), .ref (q 81), .int mtd, .int mat, .int mfa, .int mss, .ref (q 82), .ref (q 83)]), .inl (cy 0, (4, .inl u.1)), .inl (cy 0, (4, .inl u.2.1)), .inl (cy 0, (160, .inl u.2.2))]) (fun u => (lc ((asg_out (show 58 ∉ ([59, 60, 61] : List Nat) by decide)).trans k58) (lc (asg_at 0 hnM rfl rfl) (lc (asg_at 1 hnM rfl rfl) (lc (asg_at 2 hnM rfl rfl) rfl))))) (fun _ => rfl) (c_X9_sheet l D cy (q 59) (q 60) (q 61) (q 62) (q 63) (q 64) (q 65) (q 66) (q 67) (q 68) (q 69) (q 70) (q 71) (q 72) (q 73) (q 74) (q 75) (q 76) (q 77) (q 78) (q 79) (q 80) (q 81) (q 82) (q 83) (q 58) mhs mtd mat mfa mss mla msi mit (xs (j + 1)) (xs (j + 2)) (xs (j + 3)) H.size _ h) (cwV 3 hts gL_law_X9_sheet rfl rfl rfl cdv_X9_sheet ⟨Nat.le_of_ble_eq_true rfl, Nat.le_of_ble_eq_true rfl⟩) rfl hl.1 rfl (Nat.le_of_ble_eq_true rfl) ⟨Nat.le_refl _, Nat.le_refl _⟩ dL_law_171 (fun r_5 u H locs h hP hD hS => ?_)
  obtain ⟨c_6, c_7, c_8⟩ := u
  try dsimp only at h
  obtain ⟨ce2, e2⟩ : ∃ z : Nat → va_E, z = asg [59, 60, 61] [.inl (cy 0, (4, .inl c_6)), .inl (cy 0, (4, .inl c_7)), .inl (cy 0, (160, .inl c_8))] ce1 := ⟨_, rfl⟩
  have hP : va_P D vwCl (fw q ce2) H := by rw [e2]; exact hP
  have hD : va_D A (fw q ce2) := by rw [e2]; exact hD
  have hni : ∀ k, k ∉ ([59, 60, 61] : List Nat) → ce2 k = ce1 k := fun k hk => (congrFun e2 k).trans (asg_out hk)
  have k0 := (hni 0 (show 0 ∉ ([59, 60, 61] : List Nat) by decide)).trans k0
  have k1 := (hni 1 (show 1 ∉ ([59, 60, 61] : List Nat) by decide)).trans k1
  have k2 := (hni 2 (show 2 ∉ ([59, 60, 61] : List Nat) by decide)).trans k2
  have kS := gSh.mono (fun k h1 h2 => hni k (by simp only [List.mem_cons, List.not_mem_nil, or_false]; omega)) kS
  have kY := gYr.mono (fun k h1 h2 => hni k (by simp only [List.mem_cons, List.not_mem_nil, or_false]; omega)) kY
  have kT := gTp.mono (fun k h1 h2 => hni k (by simp only [List.mem_cons, List.not_mem_nil, or_false]; omega)) kT
  have kJ := gJt.mono (fun k h1 h2 => hni k (by simp only [List.mem_cons, List.not_mem_nil, or_false]; omega)) kJ
  have kF := gFi.mono (fun k h1 h2 => hni k (by simp only [List.mem_cons, List.not_mem_nil, or_false]; omega)) kF
  have kR := gRo.mono (fun k h1 h2 => hni k (by simp only [List.mem_cons, List.not_mem_nil, or_false]; omega)) kR
  have kL := gLi.mono (fun k h1 h2 => hni k (by simp only [List.mem_cons, List.not_mem_nil, or_false]; omega)) kL
  have kG := gGr.mono (fun k h1 h2 => hni k (by simp only [List.mem_cons, List.not_mem_nil, or_false]; omega)) kG
  have k58 := (hni 58 (show 58 ∉ ([59, 60, 61] : List Nat) by decide)).trans k58
  have k59 := (congrFun e2 59).trans (asg_at 0 hnM rfl rfl)
  have k60 := (congrFun e2 60).trans (asg_at 1 hnM rfl rfl)
  have k61 := (congrFun e2 61).trans (asg_at 2 hnM rfl rfl)
  have k62 := (hni 62 (show 62 ∉ ([59, 60, 61] : List Nat) by decide)).trans k62
  have k63 := (hni 63 (show 63 ∉ ([59, 60, 61] : List Nat) by decide)).trans k63
  have k64 := (hni 64 (show 64 ∉ ([59, 60, 61] : List Nat) by decide)).trans k64
  have k65 := (hni 65 (show 65 ∉ ([59, 60, 61] : List Nat) by decide)).trans k65
  have k66 := (hni 66 (show 66 ∉ ([59, 60, 61] : List Nat) by decide)).trans k66
  have k67 := (hni 67 (show 67 ∉ ([59, 60, 61] : List Nat) by decide)).trans k67
  have k68 := (hni 68 (show 68 ∉ ([59, 60, 61] : List Nat) by decide)).trans k68
  have k69 := (hni 69 (show 69 ∉ ([59, 60, 61] : List Nat) by decide)).trans k69
  have k70 := (hni 70 (show 70 ∉ ([59, 60, 61] : List Nat) by decide)).trans k70
  have k71 := (hni 71 (show 71 ∉ ([59, 60, 61] : List Nat) by decide)).trans k71
  have k72 := (hni 72 (show 72 ∉ ([59, 60, 61] : List Nat) by decide)).trans k72
  have k73 := (hni 73 (show 73 ∉ ([59, 60, 61] : List Nat) by decide)).trans k73
  have k74 := (hni 74 (show 74 ∉ ([59, 60, 61] : List Nat) by decide)).trans k74
  have k75 := (hni 75 (show 75 ∉ ([59, 60, 61] : List Nat) by decide)).trans k75
  have k76 := (hni 76 (show 76 ∉ ([59, 60, 61] : List Nat) by decide)).trans k76
  have k77 := (hni 77 (show 77 ∉ ([59, 60, 61] : List Nat) by decide)).trans k77
  have k78 := (hni 78 (show 78 ∉ ([59, 60, 61] : List Nat) by decide)).trans k78
  have k79 := (hni 79 (show 79 ∉ ([59, 60, 61] : List Nat) by decide)).trans k79
  have k80 := (hni 80 (show 80 ∉ ([59, 60, 61] : List Nat) by decide)).trans k80
  have k81 := (hni 81 (show 81 ∉ ([59, 60, 61] : List Nat) by decide)).trans k81
  have k82 := (hni 82 (show 82 ∉ ([59, 60, 61] : List Nat) by decide)).trans k82
  have k83 := (hni 83 (show 83 ∉ ([59, 60, 61] : List Nat) by decide)).trans k83
  refine lv_icmp_eq (tgt := 1060) hx hb dL_law_174 (by decide) (fun c_ => ?_) (fun c_ => absurd h.1 c_)
  exact next H locs ⟨ce2, _, _, _, _, _, _, _, _, _, _, _, _, _, _, _, _, _, _, _, _, _, _, _, _, _, _, _, _, _, _, ⟨k0, k1, k2⟩, kS, kY, kT, kJ, kF, kR, kL, kG, ⟨_, _, _, _, _, _, _, _, _, _, _, _, _, _, _, k58, k59, k60, k61, k62, k63, k64, k65, k66, k67, k68, k69, k70, k71, k72, k73, k74, k75, k76, k77, k78, k79, k80, k81, k82, k83⟩, h.2, hP, hD, hS⟩ ls hl
