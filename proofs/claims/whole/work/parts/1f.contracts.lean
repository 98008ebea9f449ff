set_option maxHeartbeats 4000000 in
set_option maxRecDepth 100000 in
theorem c_X9_drop (l : Launch) (D : va_G) (cy : Nat → ClassId) (q_t_lanes q_t_sizes q_t_items q_t_spare q_t_many q_t_px q_t_py q_t_pz q_t_strip q_t_kind q_t_byHand q_t_round q_t_lost q_t_shifts q_t_matrix q_t_right q_t_found q_t_high q_t_near q_t_cells q_t_part q_t_before q_t_tape q_t_what q_t_numbers q_t : Nat) (t_highs : Int32) (t_taped : Int32) (t_at : Int32) (t_fault : Int32) (t_steps : Int32) (t_lanes : Nat → Int32) (t_sizes : Nat → Int32) (a1 : Int32) (sz : Nat) (Q : Int32 → (Nat → Int32) → Prop) (h : wp_X9_drop t_lanes t_sizes a1 Q) : Met l yX9_drop wsX9_drop ({ frames := 1, cells := 0, slots := 0, locals := 25 } : Room) (py_Pw ([.ref q_t, .int a1] : List Value) D cy [(q_t, .inr (9, [.ref q_t_lanes, .ref q_t_sizes, .ref q_t_items, .ref q_t_spare, .ref q_t_many, .ref q_t_px, .ref q_t_py, .ref q_t_pz, .ref q_t_strip, .ref q_t_kind, .ref q_t_byHand, .ref q_t_round, .ref q_t_lost, .ref q_t_shifts, .ref q_t_matrix, .ref q_t_right, .ref q_t_found, .ref q_t_high, .int t_highs, .ref q_t_near, .ref q_t_cells, .ref q_t_part, .ref q_t_before, .ref q_t_tape, .int t_taped, .int t_at, .int t_fault, .int t_steps, .ref q_t_what, .ref q_t_numbers])), (q_t_lanes, .inl (cy 0, (4, .inl t_lanes))), (q_t_sizes, .inl (cy 0, (4, .inl t_sizes)))] sz) (va_Qi (fun (r : Int32) (u : (Nat → Int32)) => Q r u) (py_B D (fun (u : (Nat → Int32)) => [(q_t, .inr (9, [.ref q_t_lanes, .ref q_t_sizes, .ref q_t_items, .ref q_t_spare, .ref q_t_many, .ref q_t_px, .ref q_t_py, .ref q_t_pz, .ref q_t_strip, .ref q_t_kind, .ref q_t_byHand, .ref q_t_round, .ref q_t_lost, .ref q_t_shifts, .ref q_t_matrix, .ref q_t_right, .ref q_t_found, .ref q_t_high, .int t_highs, .ref q_t_near, .ref q_t_cells, .ref q_t_part, .ref q_t_before, .ref q_t_tape, .int t_taped, .int t_at, .int t_fault, .int t_steps, .ref q_t_what, .ref q_t_numbers])), (q_t_lanes, .inl (cy 0, (4, .inl u))), (q_t_sizes, .inl (cy 0, (4, .inl t_sizes)))]) (va_A [(q_t, .inr (9, [.ref q_t_lanes, .ref q_t_sizes, .ref q_t_items, .ref q_t_spare, .ref q_t_many, .ref q_t_px, .ref q_t_py, .ref q_t_pz, .ref q_t_strip, .ref q_t_kind, .ref q_t_byHand, .ref q_t_round, .ref q_t_lost, .ref q_t_shifts, .ref q_t_matrix, .ref q_t_right, .ref q_t_found, .ref q_t_high, .int t_highs, .ref q_t_near, .ref q_t_cells, .ref q_t_part, .ref q_t_before, .ref q_t_tape, .int t_taped, .int t_at, .int t_fault, .int t_steps, .ref q_t_what, .ref q_t_numbers])), (q_t_lanes, .inl (cy 0, (4, .inl t_lanes))), (q_t_sizes, .inl (cy 0, (4, .inl t_sizes)))] sz)) (va_A [(q_t, .inr (9, [.ref q_t_lanes, .ref q_t_sizes, .ref q_t_items, .ref q_t_spare, .ref q_t_many, .ref q_t_px, .ref q_t_py, .ref q_t_pz, .ref q_t_strip, .ref q_t_kind, .ref q_t_byHand, .ref q_t_round, .ref q_t_lost, .ref q_t_shifts, .ref q_t_matrix, .ref q_t_right, .ref q_t_found, .ref q_t_high, .int t_highs, .ref q_t_near, .ref q_t_cells, .ref q_t_part, .ref q_t_before, .ref q_t_tape, .int t_taped, .int t_at, .int t_fault, .int t_steps, .ref q_t_what, .ref q_t_numbers])), (q_t_lanes, .inl (cy 0, (4, .inl t_lanes))), (q_t_sizes, .inl (cy 0, (4, .inl t_sizes)))] sz)) 0 0 (va_A [(q_t, .inr (9, [.ref q_t_lanes, .ref q_t_sizes, .ref q_t_items, .ref q_t_spare, .ref q_t_many, .ref q_t_px, .ref q_t_py, .ref q_t_pz, .ref q_t_strip, .ref q_t_kind, .ref q_t_byHand, .ref q_t_round, .ref q_t_lost, .ref q_t_shifts, .ref q_t_matrix, .ref q_t_right, .ref q_t_found, .ref q_t_high, .int t_highs, .ref q_t_near, .ref q_t_cells, .ref q_t_part, .ref q_t_before, .ref q_t_tape, .int t_taped, .int t_at, .int t_fault, .int t_steps, .ref q_t_what, .ref q_t_numbers])), (q_t_lanes, .inl (cy 0, (4, .inl t_lanes))), (q_t_sizes, .inl (cy 0, (4, .inl t_sizes)))] sz) := by
  refine Met.ofW (cc := cX9_drop) (maxL := 2) (ret := (some .int)) (by decide) rfl ?_
  intro p e s m args below meth c s₁ B hml hv
  obtain ⟨rfl, hsz, hP, hKK, hD0⟩ := hv
  have hK := hKK.1
  have hN := hKK.2
  have hx := B.exec
  have hb := B.bytes
  have hr := B.returns
  have hts := atoms_spec (ws := wsX9_drop) B.pre
  have hown : s.vm.findClass RX9 = some m.cls := findClass_of_methodNamed B.named
  have hlocks := B.notSynchronized
  have hi_X9 : ∀ w ∈ wsX90, w ∈ wsX9_drop := fun w h => List.mem_cons_of_mem _ (List.mem_append_right _ (h))
  subst hsz
  have hD := hD0.self (sz := s.heap.size)
  generalize hAe : va_A [(q_t, .inr (9, [.ref q_t_lanes, .ref q_t_sizes, .ref q_t_items, .ref q_t_spare, .ref q_t_many, .ref q_t_px, .ref q_t_py, .ref q_t_pz, .ref q_t_strip, .ref q_t_kind, .ref q_t_byHand, .ref q_t_round, .ref q_t_lost, .ref q_t_shifts, .ref q_t_matrix, .ref q_t_right, .ref q_t_found, .ref q_t_high, .int t_highs, .ref q_t_near, .ref q_t_cells, .ref q_t_part, .ref q_t_before, .ref q_t_tape, .int t_taped, .int t_at, .int t_fault, .int t_steps, .ref q_t_what, .ref q_t_numbers])), (q_t_lanes, .inl (cy 0, (4, .inl t_lanes))), (q_t_sizes, .inl (cy 0, (4, .inl t_sizes)))] s.heap.size = A at hD ⊢
  have hA : ∀ q : Nat, s.heap.size ≤ q → A q := fun q h => by rw [← hAe]; exact Or.inr h
  have hS : va_S A s.heap s.heap [] := va_S.rf
  have hl := lv_entry ([.ref q_t, .int a1] : List Value) (n := 2) (Nat.le_of_ble_eq_true rfl)
  rw [lg_entry_eq]
  generalize (lg_sl ([.ref q_t, .int a1] : List Value) ++ List.replicate (2 - (lg_sl ([.ref q_t, .int a1] : List Value)).length) Slot.unset).toArray = ls at hl ⊢
  have hl : lv_has ls 2 [(0, .ref q_t), (1, .int a1)] := hl
  unfold wp_X9_drop at h
  refine lv_iload_n hx hb dX9_drop_0 rfl (lv_at hl 1 rfl) ?_
  refine lv_i2l (v := (a1.toInt64)) hx hb dX9_drop_1 rfl ?_
  refine lv_lconst (v := (0 : Int64)) hx hb dX9_drop_2 (by decide) ?_
  refine lv_ldc2 (v := (3 : Int64)) hx hb hown (hts (.constantLong RX9 87 (3)) (List.mem_of_getElem? (i := 1) rfl)) dX9_drop_3 ?_
  refine py_ci (py_rSp (As := [.long (a1.toInt64), .long (0 : Int64), .long (3 : Int64)]) ⟨hx, hb, hml, hown, hts⟩ hKK hP [] rfl (c_X9_in l D cy (a1.toInt64) (0 : Int64) (3 : Int64) _ h) (va_cwS 3 hts gX9_drop_X9_in rfl rfl rfl cd_X9_in ⟨Nat.le_of_ble_eq_true rfl, Nat.le_of_ble_eq_true rfl⟩) rfl hl.1 rfl (Nat.le_of_ble_eq_true rfl) ⟨Nat.zero_le _, Nat.zero_le _⟩ dX9_drop_6) (fun r_1 h => ?_)
  refine lv_if_ne (tgt := 14) hx hb dX9_drop_9 (by decide) (fun c_ => ?_) (fun c_ => ?_)
  · have h := h.2 c_
    refine lv_aload_n hx hb dX9_drop_14 rfl (lv_at hl 0 rfl) ?_
    refine va_get (D := D) (ci := 9) (C := RX9) (T := TX9) (N := 30) hx hb hts hi_X9 hown hK hP 0 rfl rfl 0 (by decide) (hts (.fieldLink RX9 7 "RayGroundModel" "lanes" "[I") (List.mem_of_getElem? (i := 2) rfl)) (fun _ h9 => h9) rfl dX9_drop_15 ?_
    refine lv_iload_n hx hb dX9_drop_18 rfl (lv_at hl 1 rfl) ?_
    refine py_iald hx hb hK hP 1 0 rfl rfl (k := a1.toNatClampNeg) rfl h.1 dX9_drop_19 ?_
    have h := h.2
    refine lv_if_ge (tgt := 26) hx hb dX9_drop_20 (by decide) (fun c_ => ?_) (fun c_ => ?_)
    · have h := h.1 c_
      refine lv_aload_n hx hb dX9_drop_26 rfl (lv_at hl 0 rfl) ?_
      refine va_get (D := D) (ci := 9) (C := RX9) (T := TX9) (N := 30) hx hb hts hi_X9 hown hK hP 0 rfl rfl 0 (by decide) (hts (.fieldLink RX9 7 "RayGroundModel" "lanes" "[I") (List.mem_of_getElem? (i := 2) rfl)) (fun _ h9 => h9) rfl dX9_drop_27 ?_
      refine lv_iload_n hx hb dX9_drop_30 rfl (lv_at hl 1 rfl) ?_
      refine lv_iconst (v := (-1 : Int32)) hx hb dX9_drop_31 (by decide) ?_
      refine py_iast hx hb hK hP hD hS 1 0 rfl rfl (k := a1.toNatClampNeg) rfl h.1 dX9_drop_32 (fun H locs hP hD hS => ?_)
      have h := h.2
      have hP : va_P D vwCl [(q_t, .inr (9, [.ref q_t_lanes, .ref q_t_sizes, .ref q_t_items, .ref q_t_spare, .ref q_t_many, .ref q_t_px, .ref q_t_py, .ref q_t_pz, .ref q_t_strip, .ref q_t_kind, .ref q_t_byHand, .ref q_t_round, .ref q_t_lost, .ref q_t_shifts, .ref q_t_matrix, .ref q_t_right, .ref q_t_found, .ref q_t_high, .int t_highs, .ref q_t_near, .ref q_t_cells, .ref q_t_part, .ref q_t_before, .ref q_t_tape, .int t_taped, .int t_at, .int t_fault, .int t_steps, .ref q_t_what, .ref q_t_numbers])), (q_t_lanes, .inl (cy 0, (4, .inl (upd t_lanes a1.toNatClampNeg (-1 : Int32))))), (q_t_sizes, .inl (cy 0, (4, .inl t_sizes)))] H := hP
      have hD : va_D A [(q_t, .inr (9, [.ref q_t_lanes, .ref q_t_sizes, .ref q_t_items, .ref q_t_spare, .ref q_t_many, .ref q_t_px, .ref q_t_py, .ref q_t_pz, .ref q_t_strip, .ref q_t_kind, .ref q_t_byHand, .ref q_t_round, .ref q_t_lost, .ref q_t_shifts, .ref q_t_matrix, .ref q_t_right, .ref q_t_found, .ref q_t_high, .int t_highs, .ref q_t_near, .ref q_t_cells, .ref q_t_part, .ref q_t_before, .ref q_t_tape, .int t_taped, .int t_at, .int t_fault, .int t_steps, .ref q_t_what, .ref q_t_numbers])), (q_t_lanes, .inl (cy 0, (4, .inl (upd t_lanes a1.toNatClampNeg (-1 : Int32))))), (q_t_sizes, .inl (cy 0, (4, .inl t_sizes)))] := hD
      refine lv_aload_n hx hb dX9_drop_33 rfl (lv_at hl 0 rfl) ?_
      refine va_get (D := D) (ci := 9) (C := RX9) (T := TX9) (N := 30) hx hb hts hi_X9 hown hK hP 0 rfl rfl 1 (by decide) (hts (.fieldLink RX9 13 "RayGroundModel" "sizes" "[I") (List.mem_of_getElem? (i := 3) rfl)) (fun _ h9 => h9) rfl dX9_drop_34 ?_
      refine lv_iload_n hx hb dX9_drop_37 rfl (lv_at hl 1 rfl) ?_
      refine py_iald hx hb hK hP 2 0 rfl rfl (k := a1.toNatClampNeg) rfl h.1 dX9_drop_38 ?_
      have h := h.2
      exact W.iret (v := (t_sizes a1.toNatClampNeg)) hx hb hr (fun t ht hW => ⟨⟨(t_sizes a1.toNatClampNeg), (upd t_lanes a1.toNatClampNeg (-1 : Int32)), rfl, h, by rw [ht]; exact hP, hD⟩, hS.F ht⟩) hS.2.2 dX9_drop_39
    · have h := h.2 c_
      refine lv_bipush (v := (-11 : Int32)) hx hb dX9_drop_23 (by decide) ?_
      exact W.iret (v := (-11 : Int32)) hx hb hr (fun t ht hW => ⟨⟨(-11 : Int32), t_lanes, rfl, h, by rw [ht]; exact hP, hD⟩, hS.F ht⟩) hS.2.2 dX9_drop_25
  · have h := h.1 c_
    refine lv_iconst (v := (-1 : Int32)) hx hb dX9_drop_12 (by decide) ?_
    exact W.iret (v := (-1 : Int32)) hx hb hr (fun t ht hW => ⟨⟨(-1 : Int32), t_lanes, rfl, h, by rw [ht]; exact hP, hD⟩, hS.F ht⟩) hS.2.2 dX9_drop_13
set_option maxHeartbeats 4000000 in
set_option maxRecDepth 100000 in
theorem c_X9_against (l : Launch) (D : va_G) (cy : Nat → ClassId) (q_t_lanes q_t_sizes q_t_items q_t_spare q_t_many q_t_px q_t_py q_t_pz q_t_strip q_t_kind q_t_byHand q_t_round q_t_lost q_t_shifts q_t_matrix q_t_right q_t_found q_t_high q_t_near q_t_cells q_t_part q_t_before q_t_tape q_t_what q_t_numbers q_t : Nat) (t_highs : Int32) (t_taped : Int32) (t_at : Int32) (t_fault : Int32) (t_steps : Int32) (t_lanes : Nat → Int32) (a1 : Int32) (a2 : Int32) (Q : Int32 → Prop) (h : wp_X9_against t_lanes a1 a2 Q) : Met l yX9_against wsX9_against ({ frames := 0, cells := 0, slots := 0, locals := 0 } : Room) (py_Pp ([.ref q_t, .int a1, .int a2] : List Value) D cy [(q_t, .inr (9, [.ref q_t_lanes, .ref q_t_sizes, .ref q_t_items, .ref q_t_spare, .ref q_t_many, .ref q_t_px, .ref q_t_py, .ref q_t_pz, .ref q_t_strip, .ref q_t_kind, .ref q_t_byHand, .ref q_t_round, .ref q_t_lost, .ref q_t_shifts, .ref q_t_matrix, .ref q_t_right, .ref q_t_found, .ref q_t_high, .int t_highs, .ref q_t_near, .ref q_t_cells, .ref q_t_part, .ref q_t_before, .ref q_t_tape, .int t_taped, .int t_at, .int t_fault, .int t_steps, .ref q_t_what, .ref q_t_numbers])), (q_t_lanes, .inl (cy 0, (4, .inl t_lanes)))]) (vp_Si Q) 0 0 (fun _ => False) := by
  refine Met.ofW (cc := cX9_against) (maxL := 3) (ret := (some .int)) (by decide) rfl ?_
  intro p e s m args below meth c s₁ B hml hv
  obtain ⟨rfl, hP, hKK⟩ := hv
  have hK := hKK.1
  have hN := hKK.2
  have hx := B.exec
  have hb := B.bytes
  have hr := B.returns
  have hts := atoms_spec (ws := wsX9_against) B.pre
  have hown : s.vm.findClass RX9 = some m.cls := findClass_of_methodNamed B.named
  have hlocks := B.notSynchronized
  have hi_X9 : ∀ w ∈ wsX90, w ∈ wsX9_against := fun w h => List.mem_cons_of_mem _ (List.mem_append_right _ (h))
  have hl := lv_entry ([.ref q_t, .int a1, .int a2] : List Value) (n := 3) (Nat.le_of_ble_eq_true rfl)
  rw [lg_entry_eq]
  generalize (lg_sl ([.ref q_t, .int a1, .int a2] : List Value) ++ List.replicate (3 - (lg_sl ([.ref q_t, .int a1, .int a2] : List Value)).length) Slot.unset).toArray = ls at hl ⊢
  have hl : lv_has ls 3 [(0, .ref q_t), (1, .int a1), (2, .int a2)] := hl
  unfold wp_X9_against at h
  refine lv_aload_n hx hb dX9_against_0 rfl (lv_at hl 0 rfl) ?_
  refine va_get (D := D) (ci := 9) (C := RX9) (T := TX9) (N := 30) hx hb hts hi_X9 hown hK hP 0 rfl rfl 0 (by decide) (hts (.fieldLink RX9 7 "RayGroundModel" "lanes" "[I") (List.mem_of_getElem? (i := 1) rfl)) (fun _ h9 => h9) rfl dX9_against_1 ?_
  refine lv_iload_n hx hb dX9_against_4 rfl (lv_at hl 1 rfl) ?_
  refine py_iald hx hb hK hP 1 0 rfl rfl (k := a1.toNatClampNeg) rfl h.1 dX9_against_5 ?_
  have h := h.2
  refine lv_iload_n hx hb dX9_against_6 rfl (lv_at hl 2 rfl) ?_
  refine lv_icmp_ne (tgt := 14) hx hb dX9_against_7 (by decide) (fun c_ => ?_) (fun c_ => ?_)
  · have h := h.2 c_
    refine lv_aload_n hx hb dX9_against_14 rfl (lv_at hl 0 rfl) ?_
    refine va_get (D := D) (ci := 9) (C := RX9) (T := TX9) (N := 30) hx hb hts hi_X9 hown hK hP 0 rfl rfl 0 (by decide) (hts (.fieldLink RX9 7 "RayGroundModel" "lanes" "[I") (List.mem_of_getElem? (i := 1) rfl)) (fun _ h9 => h9) rfl dX9_against_15 ?_
    refine lv_iload_n hx hb dX9_against_18 rfl (lv_at hl 1 rfl) ?_
    refine py_iald hx hb hK hP 1 0 rfl rfl (k := a1.toNatClampNeg) rfl h.1 dX9_against_19 ?_
    have h := h.2
    refine lv_if_ge (tgt := 28) hx hb dX9_against_20 (by decide) (fun c_ => ?_) (fun c_ => ?_)
    · have h := h.1 c_
      refine lv_bipush (v := (-12 : Int32)) hx hb dX9_against_28 (by decide) ?_
      exact W.iret (v := (-12 : Int32)) hx hb hr (fun t ht hW => ⟨(-12 : Int32), rfl, h, ht⟩) (fun _ hq => by cases hq) dX9_against_30
    · have h := h.2 c_
      refine lv_bipush (v := (-11 : Int32)) hx hb dX9_against_23 (by decide) ?_
      refine lv_goto (tgt := 30) hx hb dX9_against_25 (by decide) ?_
      exact W.iret (v := (-11 : Int32)) hx hb hr (fun t ht hW => ⟨(-11 : Int32), rfl, h, ht⟩) (fun _ hq => by cases hq) dX9_against_30
  · have h := h.1 c_
    refine lv_iconst (v := (0 : Int32)) hx hb dX9_against_10 (by decide) ?_
    refine lv_goto (tgt := 30) hx hb dX9_against_11 (by decide) ?_
    exact W.iret (v := (0 : Int32)) hx hb hr (fun t ht hW => ⟨(0 : Int32), rfl, h, ht⟩) (fun _ hq => by cases hq) dX9_against_30
set_option maxHeartbeats 4000000 in
set_option maxRecDepth 100000 in
theorem c_X9_item (l : Launch) (D : va_G) (cy : Nat → ClassId) (q_t_lanes q_t_sizes q_t_items q_t_spare q_t_many q_t_px q_t_py q_t_pz q_t_strip q_t_kind q_t_byHand q_t_round q_t_lost q_t_shifts q_t_matrix q_t_right q_t_found q_t_high q_t_near q_t_cells q_t_part q_t_before q_t_tape q_t_what q_t_numbers q_t : Nat) (t_highs : Int32) (t_taped : Int32) (t_at : Int32) (t_fault : Int32) (t_steps : Int32) (t_lanes : Nat → Int32) (t_sizes : Nat → Int32) (t_items : Nat → Int32) (a1 : Int32) (a2 : Int32) (a3 : Int32) (a4 : Int32) (sz : Nat) (Q : Int32 → (Nat → Int32) → Prop) (h : wp_X9_item t_lanes t_sizes t_items a1 a2 a3 a4 Q) : Met l yX9_item wsX9_item ({ frames := 2, cells := 0, slots := 0, locals := 46 } : Room) (py_Pw ([.ref q_t, .int a1, .int a2, .int a3, .int a4] : List Value) D cy [(q_t, .inr (9, [.ref q_t_lanes, .ref q_t_sizes, .ref q_t_items, .ref q_t_spare, .ref q_t_many, .ref q_t_px, .ref q_t_py, .ref q_t_pz, .ref q_t_strip, .ref q_t_kind, .ref q_t_byHand, .ref q_t_round, .ref q_t_lost, .ref q_t_shifts, .ref q_t_matrix, .ref q_t_right, .ref q_t_found, .ref q_t_high, .int t_highs, .ref q_t_near, .ref q_t_cells, .ref q_t_part, .ref q_t_before, .ref q_t_tape, .int t_taped, .int t_at, .int t_fault, .int t_steps, .ref q_t_what, .ref q_t_numbers])), (q_t_lanes, .inl (cy 0, (4, .inl t_lanes))), (q_t_sizes, .inl (cy 0, (4, .inl t_sizes))), (q_t_items, .inl (cy 0, (160, .inl t_items)))] sz) (va_Qi (fun (r : Int32) (u : (Nat → Int32)) => Q r u) (py_B D (fun (u : (Nat → Int32)) => [(q_t, .inr (9, [.ref q_t_lanes, .ref q_t_sizes, .ref q_t_items, .ref q_t_spare, .ref q_t_many, .ref q_t_px, .ref q_t_py, .ref q_t_pz, .ref q_t_strip, .ref q_t_kind, .ref q_t_byHand, .ref q_t_round, .ref q_t_lost, .ref q_t_shifts, .ref q_t_matrix, .ref q_t_right, .ref q_t_found, .ref q_t_high, .int t_highs, .ref q_t_near, .ref q_t_cells, .ref q_t_part, .ref q_t_before, .ref q_t_tape, .int t_taped, .int t_at, .int t_fault, .int t_steps, .ref q_t_what, .ref q_t_numbers])), (q_t_lanes, .inl (cy 0, (4, .inl t_lanes))), (q_t_sizes, .inl (cy 0, (4, .inl t_sizes))), (q_t_items, .inl (cy 0, (160, .inl u)))]) (va_A [(q_t, .inr (9, [.ref q_t_lanes, .ref q_t_sizes, .ref q_t_items, .ref q_t_spare, .ref q_t_many, .ref q_t_px, .ref q_t_py, .ref q_t_pz, .ref q_t_strip, .ref q_t_kind, .ref q_t_byHand, .ref q_t_round, .ref q_t_lost, .ref q_t_shifts, .ref q_t_matrix, .ref q_t_right, .ref q_t_found, .ref q_t_high, .int t_highs, .ref q_t_near, .ref q_t_cells, .ref q_t_part, .ref q_t_before, .ref q_t_tape, .int t_taped, .int t_at, .int t_fault, .int t_steps, .ref q_t_what, .ref q_t_numbers])), (q_t_lanes, .inl (cy 0, (4, .inl t_lanes))), (q_t_sizes, .inl (cy 0, (4, .inl t_sizes))), (q_t_items, .inl (cy 0, (160, .inl t_items)))] sz)) (va_A [(q_t, .inr (9, [.ref q_t_lanes, .ref q_t_sizes, .ref q_t_items, .ref q_t_spare, .ref q_t_many, .ref q_t_px, .ref q_t_py, .ref q_t_pz, .ref q_t_strip, .ref q_t_kind, .ref q_t_byHand, .ref q_t_round, .ref q_t_lost, .ref q_t_shifts, .ref q_t_matrix, .ref q_t_right, .ref q_t_found, .ref q_t_high, .int t_highs, .ref q_t_near, .ref q_t_cells, .ref q_t_part, .ref q_t_before, .ref q_t_tape, .int t_taped, .int t_at, .int t_fault, .int t_steps, .ref q_t_what, .ref q_t_numbers])), (q_t_lanes, .inl (cy 0, (4, .inl t_lanes))), (q_t_sizes, .inl (cy 0, (4, .inl t_sizes))), (q_t_items, .inl (cy 0, (160, .inl t_items)))] sz)) 0 0 (va_A [(q_t, .inr (9, [.ref q_t_lanes, .ref q_t_sizes, .ref q_t_items, .ref q_t_spare, .ref q_t_many, .ref q_t_px, .ref q_t_py, .ref q_t_pz, .ref q_t_strip, .ref q_t_kind, .ref q_t_byHand, .ref q_t_round, .ref q_t_lost, .ref q_t_shifts, .ref q_t_matrix, .ref q_t_right, .ref q_t_found, .ref q_t_high, .int t_highs, .ref q_t_near, .ref q_t_cells, .ref q_t_part, .ref q_t_before, .ref q_t_tape, .int t_taped, .int t_at, .int t_fault, .int t_steps, .ref q_t_what, .ref q_t_numbers])), (q_t_lanes, .inl (cy 0, (4, .inl t_lanes))), (q_t_sizes, .inl (cy 0, (4, .inl t_sizes))), (q_t_items, .inl (cy 0, (160, .inl t_items)))] sz) := by
  refine Met.ofW (cc := cX9_item) (maxL := 6) (ret := (some .int)) (by decide) rfl ?_
  intro p e s m args below meth c s₁ B hml hv
  obtain ⟨rfl, hsz, hP, hKK, hD0⟩ := hv
  have hK := hKK.1
  have hN := hKK.2
  have hx := B.exec
  have hb := B.bytes
  have hr := B.returns
  have hts := atoms_spec (ws := wsX9_item) B.pre
  have hown : s.vm.findClass RX9 = some m.cls := findClass_of_methodNamed B.named
  have hlocks := B.notSynchronized
  have hi_X9 : ∀ w ∈ wsX90, w ∈ wsX9_item := fun w h => List.mem_cons_of_mem _ (List.mem_append_right _ (h))
  subst hsz
  have hD := hD0.self (sz := s.heap.size)
  generalize hAe : va_A [(q_t, .inr (9, [.ref q_t_lanes, .ref q_t_sizes, .ref q_t_items, .ref q_t_spare, .ref q_t_many, .ref q_t_px, .ref q_t_py, .ref q_t_pz, .ref q_t_strip, .ref q_t_kind, .ref q_t_byHand, .ref q_t_round, .ref q_t_lost, .ref q_t_shifts, .ref q_t_matrix, .ref q_t_right, .ref q_t_found, .ref q_t_high, .int t_highs, .ref q_t_near, .ref q_t_cells, .ref q_t_part, .ref q_t_before, .ref q_t_tape, .int t_taped, .int t_at, .int t_fault, .int t_steps, .ref q_t_what, .ref q_t_numbers])), (q_t_lanes, .inl (cy 0, (4, .inl t_lanes))), (q_t_sizes, .inl (cy 0, (4, .inl t_sizes))), (q_t_items, .inl (cy 0, (160, .inl t_items)))] s.heap.size = A at hD ⊢
  have hA : ∀ q : Nat, s.heap.size ≤ q → A q := fun q h => by rw [← hAe]; exact Or.inr h
  have hS : va_S A s.heap s.heap [] := va_S.rf
  have hl := lv_entry ([.ref q_t, .int a1, .int a2, .int a3, .int a4] : List Value) (n := 6) (Nat.le_of_ble_eq_true rfl)
  rw [lg_entry_eq]
  generalize (lg_sl ([.ref q_t, .int a1, .int a2, .int a3, .int a4] : List Value) ++ List.replicate (6 - (lg_sl ([.ref q_t, .int a1, .int a2, .int a3, .int a4] : List Value)).length) Slot.unset).toArray = ls at hl ⊢
  have hl : lv_has ls 6 [(0, .ref q_t), (1, .int a1), (2, .int a2), (3, .int a3), (4, .int a4)] := hl
  unfold wp_X9_item at h
  refine lv_iload_n hx hb dX9_item_0 rfl (lv_at hl 1 rfl) ?_
  refine lv_iload_n hx hb dX9_item_1 rfl (lv_at hl 2 rfl) ?_
  refine py_ci (py_rSp (As := [.int a1, .int a2]) ⟨hx, hb, hml, hown, hts⟩ hKK hP [] rfl (c_X9_isSheet l D cy a1 a2 _ h) (va_cwS 2 hts gX9_item_X9_isSheet rfl rfl rfl cd_X9_isSheet ⟨Nat.le_of_ble_eq_true rfl, Nat.le_of_ble_eq_true rfl⟩) rfl hl.1 rfl (Nat.le_of_ble_eq_true rfl) ⟨Nat.zero_le _, Nat.zero_le _⟩ dX9_item_2) (fun r_1 h => ?_)
  refine lv_if_ne (tgt := 10) hx hb dX9_item_5 (by decide) (fun c_ => ?_) (fun c_ => ?_)
  · have h := h.2 c_
    refine lv_aload_n hx hb dX9_item_10 rfl (lv_at hl 0 rfl) ?_
    refine lv_iload_n hx hb dX9_item_11 rfl (lv_at hl 1 rfl) ?_
    refine lv_iload_n hx hb dX9_item_12 rfl (lv_at hl 2 rfl) ?_
    refine py_ci (py_rVp (As := [.int a1, .int a2]) ⟨hx, hb, hml, hown, hts⟩ hKK hP [0, 1] rfl 0 9 rfl rfl (c_X9_against l D cy q_t_lanes q_t_sizes q_t_items q_t_spare q_t_many q_t_px q_t_py q_t_pz q_t_strip q_t_kind q_t_byHand q_t_round q_t_lost q_t_shifts q_t_matrix q_t_right q_t_found q_t_high q_t_near q_t_cells q_t_part q_t_before q_t_tape q_t_what q_t_numbers q_t t_highs t_taped t_at t_fault t_steps t_lanes a1 a2 _ h) (cwV 2 hts gX9_item_X9_against rfl rfl rfl cdv_X9_against ⟨Nat.le_of_ble_eq_true rfl, Nat.le_of_ble_eq_true rfl⟩) rfl hl.1 rfl (Nat.le_of_ble_eq_true rfl) ⟨Nat.zero_le _, Nat.zero_le _⟩ dX9_item_13) (fun r_2 h => ?_)
    refine lv_istore (lv' := [(5, .int r_2), (0, .ref q_t), (1, .int a1), (2, .int a2), (3, .int a3), (4, .int a4)]) hx hb dX9_item_16 hl (by decide) rfl (fun ls hl => ?_)
    refine lv_iload hx hb dX9_item_18 (lv_at hl 0 rfl) ?_
    refine lv_if_ge (tgt := 26) hx hb dX9_item_20 (by decide) (fun c_ => ?_) (fun c_ => ?_)
    · have h := h.1 c_
      refine lv_iload_n hx hb dX9_item_26 rfl (lv_at hl 4 rfl) ?_
      refine lv_i2l (v := (a3.toInt64)) hx hb dX9_item_27 rfl ?_
      refine lv_lconst (v := (0 : Int64)) hx hb dX9_item_28 (by decide) ?_
      refine lv_aload_n hx hb dX9_item_29 rfl (lv_at hl 1 rfl) ?_
      refine va_get (D := D) (ci := 9) (C := RX9) (T := TX9) (N := 30) hx hb hts hi_X9 hown hK hP 0 rfl rfl 1 (by decide) (hts (.fieldLink RX9 13 "RayGroundModel" "sizes" "[I") (List.mem_of_getElem? (i := 1) rfl)) (fun _ h9 => h9) rfl dX9_item_30 ?_
      refine lv_iload_n hx hb dX9_item_33 rfl (lv_at hl 2 rfl) ?_
      refine py_iald hx hb hK hP 2 0 rfl rfl (k := a1.toNatClampNeg) rfl h.1 dX9_item_34 ?_
      have h := h.2
      refine lv_iconst (v := (1 : Int32)) hx hb dX9_item_35 (by decide) ?_
      refine lv_isub hx hb dX9_item_36 ?_
      refine lv_i2l (v := (((t_sizes a1.toNatClampNeg) - (1 : Int32)).toInt64)) hx hb dX9_item_37 rfl ?_
      refine py_ci (py_rSp (As := [.long (a3.toInt64), .long (0 : Int64), .long (((t_sizes a1.toNatClampNeg) - (1 : Int32)).toInt64)]) ⟨hx, hb, hml, hown, hts⟩ hKK hP [] rfl (c_X9_in l D cy (a3.toInt64) (0 : Int64) (((t_sizes a1.toNatClampNeg) - (1 : Int32)).toInt64) _ h) (va_cwS 3 hts gX9_item_X9_in rfl rfl rfl cd_X9_in ⟨Nat.le_of_ble_eq_true rfl, Nat.le_of_ble_eq_true rfl⟩) rfl hl.1 rfl (Nat.le_of_ble_eq_true rfl) ⟨Nat.zero_le _, Nat.zero_le _⟩ dX9_item_38) (fun r_3 h => ?_)
      refine lv_if_ne (tgt := 47) hx hb dX9_item_41 (by decide) (fun c_ => ?_) (fun c_ => ?_)
      · have h := h.2 c_
        refine lv_aload_n hx hb dX9_item_47 rfl (lv_at hl 1 rfl) ?_
        refine va_get (D := D) (ci := 9) (C := RX9) (T := TX9) (N := 30) hx hb hts hi_X9 hown hK hP 0 rfl rfl 2 (by decide) (hts (.fieldLink RX9 16 "RayGroundModel" "items" "[I") (List.mem_of_getElem? (i := 2) rfl)) (fun _ h9 => h9) rfl dX9_item_48 ?_
        refine lv_bipush (v := (40 : Int32)) hx hb dX9_item_51 (by decide) ?_
        refine lv_iload_n hx hb dX9_item_53 rfl (lv_at hl 2 rfl) ?_
        refine lv_imul hx hb dX9_item_54 ?_
        refine lv_iload_n hx hb dX9_item_55 rfl (lv_at hl 4 rfl) ?_
        refine lv_iadd hx hb dX9_item_56 ?_
        refine lv_iload_n hx hb dX9_item_57 rfl (lv_at hl 3 rfl) ?_
        refine lv_if_ne (tgt := 72) hx hb dX9_item_58 (by decide) (fun c_ => ?_) (fun c_ => ?_)
        · have h := h.2 c_
          refine lv_iload_n hx hb dX9_item_72 rfl (lv_at hl 3 rfl) ?_
          refine lv_iconst (v := (1 : Int32)) hx hb dX9_item_73 (by decide) ?_
          refine lv_icmp_ne (tgt := 88) hx hb dX9_item_74 (by decide) (fun c_ => ?_) (fun c_ => ?_)
          · have h := h.2 c_
            refine lv_iload hx hb dX9_item_88 (lv_at hl 5 rfl) ?_
            refine py_iast hx hb hK hP hD hS 3 0 rfl rfl (k := (((40 : Int32) * a1) + a3).toNatClampNeg) rfl h.1 dX9_item_90 (fun H locs hP hD hS => ?_)
            have h := h.2
            have hP : va_P D vwCl [(q_t, .inr (9, [.ref q_t_lanes, .ref q_t_sizes, .ref q_t_items, .ref q_t_spare, .ref q_t_many, .ref q_t_px, .ref q_t_py, .ref q_t_pz, .ref q_t_strip, .ref q_t_kind, .ref q_t_byHand, .ref q_t_round, .ref q_t_lost, .ref q_t_shifts, .ref q_t_matrix, .ref q_t_right, .ref q_t_found, .ref q_t_high, .int t_highs, .ref q_t_near, .ref q_t_cells, .ref q_t_part, .ref q_t_before, .ref q_t_tape, .int t_taped, .int t_at, .int t_fault, .int t_steps, .ref q_t_what, .ref q_t_numbers])), (q_t_lanes, .inl (cy 0, (4, .inl t_lanes))), (q_t_sizes, .inl (cy 0, (4, .inl t_sizes))), (q_t_items, .inl (cy 0, (160, .inl (upd t_items ((((40 : Int32) * a1) + a3).toNatClampNeg) a4))))] H := hP
            have hD : va_D A [(q_t, .inr (9, [.ref q_t_lanes, .ref q_t_sizes, .ref q_t_items, .ref q_t_spare, .ref q_t_many, .ref q_t_px, .ref q_t_py, .ref q_t_pz, .ref q_t_strip, .ref q_t_kind, .ref q_t_byHand, .ref q_t_round, .ref q_t_lost, .ref q_t_shifts, .ref q_t_matrix, .ref q_t_right, .ref q_t_found, .ref q_t_high, .int t_highs, .ref q_t_near, .ref q_t_cells, .ref q_t_part, .ref q_t_before, .ref q_t_tape, .int t_taped, .int t_at, .int t_fault, .int t_steps, .ref q_t_what, .ref q_t_numbers])), (q_t_lanes, .inl (cy 0, (4, .inl t_lanes))), (q_t_sizes, .inl (cy 0, (4, .inl t_sizes))), (q_t_items, .inl (cy 0, (160, .inl (upd t_items ((((40 : Int32) * a1) + a3).toNatClampNeg) a4))))] := hD
            refine lv_iconst (v := (1 : Int32)) hx hb dX9_item_91 (by decide) ?_
            exact W.iret (v := (1 : Int32)) hx hb hr (fun t ht hW => ⟨⟨(1 : Int32), (upd t_items ((((40 : Int32) * a1) + a3).toNatClampNeg) a4), rfl, h, by rw [ht]; exact hP, hD⟩, hS.F ht⟩) hS.2.2 dX9_item_92
          · have h := h.1 c_
            refine lv_iload hx hb dX9_item_77 (lv_at hl 5 rfl) ?_
            refine lv_bipush (v := (16 : Int32)) hx hb dX9_item_79 (by decide) ?_
            refine lv_ishl hx hb dX9_item_81 ?_
            refine lv_bipush (v := (16 : Int32)) hx hb dX9_item_82 (by decide) ?_
            refine lv_ishr hx hb dX9_item_84 ?_
            refine lv_goto (tgt := 90) hx hb dX9_item_85 (by decide) ?_
            refine py_iast hx hb hK hP hD hS 3 0 rfl rfl (k := (((40 : Int32) * a1) + a3).toNatClampNeg) rfl h.1 dX9_item_90 (fun H locs hP hD hS => ?_)
            have h := h.2
            have hP : va_P D vwCl [(q_t, .inr (9, [.ref q_t_lanes, .ref q_t_sizes, .ref q_t_items, .ref q_t_spare, .ref q_t_many, .ref q_t_px, .ref q_t_py, .ref q_t_pz, .ref q_t_strip, .ref q_t_kind, .ref q_t_byHand, .ref q_t_round, .ref q_t_lost, .ref q_t_shifts, .ref q_t_matrix, .ref q_t_right, .ref q_t_found, .ref q_t_high, .int t_highs, .ref q_t_near, .ref q_t_cells, .ref q_t_part, .ref q_t_before, .ref q_t_tape, .int t_taped, .int t_at, .int t_fault, .int t_steps, .ref q_t_what, .ref q_t_numbers])), (q_t_lanes, .inl (cy 0, (4, .inl t_lanes))), (q_t_sizes, .inl (cy 0, (4, .inl t_sizes))), (q_t_items, .inl (cy 0, (160, .inl (upd t_items ((((40 : Int32) * a1) + a3).toNatClampNeg) ((a4 <<< ((16 : Int32) &&& 31)) >>> ((16 : Int32) &&& 31))))))] H := hP
            have hD : va_D A [(q_t, .inr (9, [.ref q_t_lanes, .ref q_t_sizes, .ref q_t_items, .ref q_t_spare, .ref q_t_many, .ref q_t_px, .ref q_t_py, .ref q_t_pz, .ref q_t_strip, .ref q_t_kind, .ref q_t_byHand, .ref q_t_round, .ref q_t_lost, .ref q_t_shifts, .ref q_t_matrix, .ref q_t_right, .ref q_t_found, .ref q_t_high, .int t_highs, .ref q_t_near, .ref q_t_cells, .ref q_t_part, .ref q_t_before, .ref q_t_tape, .int t_taped, .int t_at, .int t_fault, .int t_steps, .ref q_t_what, .ref q_t_numbers])), (q_t_lanes, .inl (cy 0, (4, .inl t_lanes))), (q_t_sizes, .inl (cy 0, (4, .inl t_sizes))), (q_t_items, .inl (cy 0, (160, .inl (upd t_items ((((40 : Int32) * a1) + a3).toNatClampNeg) ((a4 <<< ((16 : Int32) &&& 31)) >>> ((16 : Int32) &&& 31))))))] := hD
            refine lv_iconst (v := (1 : Int32)) hx hb dX9_item_91 (by decide) ?_
            exact W.iret (v := (1 : Int32)) hx hb hr (fun t ht hW => ⟨⟨(1 : Int32), (upd t_items ((((40 : Int32) * a1) + a3).toNatClampNeg) ((a4 <<< ((16 : Int32) &&& 31)) >>> ((16 : Int32) &&& 31))), rfl, h, by rw [ht]; exact hP, hD⟩, hS.F ht⟩) hS.2.2 dX9_item_92
        · have h := h.1 c_
          refine lv_iload hx hb dX9_item_61 (lv_at hl 5 rfl) ?_
          refine lv_bipush (v := (24 : Int32)) hx hb dX9_item_63 (by decide) ?_
          refine lv_ishl hx hb dX9_item_65 ?_
          refine lv_bipush (v := (24 : Int32)) hx hb dX9_item_66 (by decide) ?_
          refine lv_ishr hx hb dX9_item_68 ?_
          refine lv_goto (tgt := 90) hx hb dX9_item_69 (by decide) ?_
          refine py_iast hx hb hK hP hD hS 3 0 rfl rfl (k := (((40 : Int32) * a1) + a3).toNatClampNeg) rfl h.1 dX9_item_90 (fun H locs hP hD hS => ?_)
          have h := h.2
          have hP : va_P D vwCl [(q_t, .inr (9, [.ref q_t_lanes, .ref q_t_sizes, .ref q_t_items, .ref q_t_spare, .ref q_t_many, .ref q_t_px, .ref q_t_py, .ref q_t_pz, .ref q_t_strip, .ref q_t_kind, .ref q_t_byHand, .ref q_t_round, .ref q_t_lost, .ref q_t_shifts, .ref q_t_matrix, .ref q_t_right, .ref q_t_found, .ref q_t_high, .int t_highs, .ref q_t_near, .ref q_t_cells, .ref q_t_part, .ref q_t_before, .ref q_t_tape, .int t_taped, .int t_at, .int t_fault, .int t_steps, .ref q_t_what, .ref q_t_numbers])), (q_t_lanes, .inl (cy 0, (4, .inl t_lanes))), (q_t_sizes, .inl (cy 0, (4, .inl t_sizes))), (q_t_items, .inl (cy 0, (160, .inl (upd t_items ((((40 : Int32) * a1) + a3).toNatClampNeg) ((a4 <<< ((24 : Int32) &&& 31)) >>> ((24 : Int32) &&& 31))))))] H := hP
          have hD : va_D A [(q_t, .inr (9, [.ref q_t_lanes, .ref q_t_sizes, .ref q_t_items, .ref q_t_spare, .ref q_t_many, .ref q_t_px, .ref q_t_py, .ref q_t_pz, .ref q_t_strip, .ref q_t_kind, .ref q_t_byHand, .ref q_t_round, .ref q_t_lost, .ref q_t_shifts, .ref q_t_matrix, .ref q_t_right, .ref q_t_found, .ref q_t_high, .int t_highs, .ref q_t_near, .ref q_t_cells, .ref q_t_part, .ref q_t_before, .ref q_t_tape, .int t_taped, .int t_at, .int t_fault, .int t_steps, .ref q_t_what, .ref q_t_numbers])), (q_t_lanes, .inl (cy 0, (4, .inl t_lanes))), (q_t_sizes, .inl (cy 0, (4, .inl t_sizes))), (q_t_items, .inl (cy 0, (160, .inl (upd t_items ((((40 : Int32) * a1) + a3).toNatClampNeg) ((a4 <<< ((24 : Int32) &&& 31)) >>> ((24 : Int32) &&& 31))))))] := hD
          refine lv_iconst (v := (1 : Int32)) hx hb dX9_item_91 (by decide) ?_
          exact W.iret (v := (1 : Int32)) hx hb hr (fun t ht hW => ⟨⟨(1 : Int32), (upd t_items ((((40 : Int32) * a1) + a3).toNatClampNeg) ((a4 <<< ((24 : Int32) &&& 31)) >>> ((24 : Int32) &&& 31))), rfl, h, by rw [ht]; exact hP, hD⟩, hS.F ht⟩) hS.2.2 dX9_item_92
      · have h := h.1 c_
        refine lv_bipush (v := (-13 : Int32)) hx hb dX9_item_44 (by decide) ?_
        exact W.iret (v := (-13 : Int32)) hx hb hr (fun t ht hW => ⟨⟨(-13 : Int32), t_items, rfl, h, by rw [ht]; exact hP, hD⟩, hS.F ht⟩) hS.2.2 dX9_item_46
    · have h := h.2 c_
      refine lv_iload hx hb dX9_item_23 (lv_at hl 0 rfl) ?_
      exact W.iret (v := r_2) hx hb hr (fun t ht hW => ⟨⟨r_2, t_items, rfl, h, by rw [ht]; exact hP, hD⟩, hS.F ht⟩) hS.2.2 dX9_item_25
  · have h := h.1 c_
    refine lv_iconst (v := (-1 : Int32)) hx hb dX9_item_8 (by decide) ?_
    exact W.iret (v := (-1 : Int32)) hx hb hr (fun t ht hW => ⟨⟨(-1 : Int32), t_items, rfl, h, by rw [ht]; exact hP, hD⟩, hS.F ht⟩) hS.2.2 dX9_item_9
set_option maxHeartbeats 4000000 in
set_option maxRecDepth 100000 in
theorem c_X9_isSpan (l : Launch) (D : va_G) (cy : Nat → ClassId) (a0 : Int32) (a1 : Int32) (a2 : Int32) (Q : Int32 → Prop) (h : wp_X9_isSpan a0 a1 a2 Q) : Met l yX9_isSpan wsX9_isSpan ({ frames := 0, cells := 0, slots := 0, locals := 0 } : Room) (py_Pp ([.int a0, .int a1, .int a2] : List Value) D cy []) (vp_Si Q) 0 0 (fun _ => False) := by
  refine Met.ofW (cc := cX9_isSpan) (maxL := 3) (ret := (some .boolean)) (by decide) rfl ?_
  intro p e s m args below meth c s₁ B hml hv
  obtain ⟨rfl, hP, hKK⟩ := hv
  have hK := hKK.1
  have hN := hKK.2
  have hx := B.exec
  have hb := B.bytes
  have hr := B.returns
  have hts := atoms_spec (ws := wsX9_isSpan) B.pre
  have hown : s.vm.findClass RX9 = some m.cls := findClass_of_methodNamed B.named
  have hlocks := B.notSynchronized
  have hl := lv_entry ([.int a0, .int a1, .int a2] : List Value) (n := 3) (Nat.le_of_ble_eq_true rfl)
  rw [lg_entry_eq]
  generalize (lg_sl ([.int a0, .int a1, .int a2] : List Value) ++ List.replicate (3 - (lg_sl ([.int a0, .int a1, .int a2] : List Value)).length) Slot.unset).toArray = ls at hl ⊢
  have hl : lv_has ls 3 [(0, .int a0), (1, .int a1), (2, .int a2)] := hl
  unfold wp_X9_isSpan at h
  have j23 : ∀ (ls : Array Slot), lv_has ls 3 [] → wp_X9_isSpan_b23 Q → W p l e (headSpec wsX9_isSpan ({ frames := 0, cells := 0, slots := 0, locals := 0 } : Room)).room s m (([.int a0, .int a1, .int a2] : List Value)).toArray below meth c s.heap [] 0 0 (MQ below (vp_Si Q) (([.int a0, .int a1, .int a2] : List Value)).toArray s 0 0 (fun _ => False)) (F0 m 23 ls []) := by
    intro ls hl h
    unfold wp_X9_isSpan_b23 at h
    refine lv_iconst (v := (0 : Int32)) hx hb dX9_isSpan_23 (by decide) ?_
    exact W.zret (v := (0 : Int32)) hx hb hr rfl (fun t ht hW => ⟨(0 : Int32), rfl, h, ht⟩) (fun _ hq => by cases hq) dX9_isSpan_24
  refine lv_iload_n hx hb dX9_isSpan_0 rfl (lv_at hl 0 rfl) ?_
  refine lv_if_lt (tgt := 23) hx hb dX9_isSpan_1 (by decide) (fun c_ => ?_) (fun c_ => ?_)
  · have h := h.1 c_
    exact j23 _ (lv_sub hl [] rfl) h
  · have h := h.2 c_
    refine lv_iload_n hx hb dX9_isSpan_4 rfl (lv_at hl 1 rfl) ?_
    refine lv_if_lt (tgt := 23) hx hb dX9_isSpan_5 (by decide) (fun c_ => ?_) (fun c_ => ?_)
    · have h := h.1 c_
      exact j23 _ (lv_sub hl [] rfl) h
    · have h := h.2 c_
      refine lv_iload_n hx hb dX9_isSpan_8 rfl (lv_at hl 0 rfl) ?_
      refine lv_i2l (v := (a0.toInt64)) hx hb dX9_isSpan_9 rfl ?_
      refine lv_iload_n hx hb dX9_isSpan_10 rfl (lv_at hl 1 rfl) ?_
      refine lv_i2l (v := (a1.toInt64)) hx hb dX9_isSpan_11 rfl ?_
      refine lv_ladd hx hb dX9_isSpan_12 ?_
      refine lv_iload_n hx hb dX9_isSpan_13 rfl (lv_at hl 2 rfl) ?_
      refine lv_i2l (v := (a2.toInt64)) hx hb dX9_isSpan_14 rfl ?_
      refine W.lcmp hx hb dX9_isSpan_15 ?_
      refine lv_if_gt (tgt := 23) hx hb dX9_isSpan_16 (by decide) (fun c_ => ?_) (fun c_ => ?_)
      · have h := h.1 c_
        exact j23 _ (lv_sub hl [] rfl) h
      · have h := h.2 c_
        refine lv_iconst (v := (1 : Int32)) hx hb dX9_isSpan_19 (by decide) ?_
        refine lv_goto (tgt := 24) hx hb dX9_isSpan_20 (by decide) ?_
        exact W.zret (v := (1 : Int32)) hx hb hr rfl (fun t ht hW => ⟨(1 : Int32), rfl, h, ht⟩) (fun _ hq => by cases hq) dX9_isSpan_24
set_option maxHeartbeats 4000000 in
set_option maxRecDepth 100000 in
theorem c_X9_copy (l : Launch) (D : va_G) (cy : Nat → ClassId) (q_t_lanes q_t_sizes q_t_items q_t_spare q_t_many q_t_px q_t_py q_t_pz q_t_strip q_t_kind q_t_byHand q_t_round q_t_lost q_t_shifts q_t_matrix q_t_right q_t_found q_t_high q_t_near q_t_cells q_t_part q_t_before q_t_tape q_t_what q_t_numbers q_t : Nat) (t_highs : Int32) (t_taped : Int32) (t_at : Int32) (t_fault : Int32) (t_steps : Int32) (t_lanes : Nat → Int32) (t_sizes : Nat → Int32) (t_items : Nat → Int32) (t_spare : Nat → Int32) (a1 : Int32) (a2 : Int32) (a3 : Int32) (a4 : Int32) (a5 : Int32) (sz : Nat) (Q : Int32 → (Nat → Int32) → (Nat → Int32) → Prop) (h : wp_X9_copy t_lanes t_sizes t_items t_spare a1 a2 a3 a4 a5 Q) : Met l yX9_copy wsX9_copy ({ frames := 1, cells := 0, slots := 0, locals := 25 } : Room) (py_Pw ([.ref q_t, .int a1, .int a2, .int a3, .int a4, .int a5] : List Value) D cy [(q_t, .inr (9, [.ref q_t_lanes, .ref q_t_sizes, .ref q_t_items, .ref q_t_spare, .ref q_t_many, .ref q_t_px, .ref q_t_py, .ref q_t_pz, .ref q_t_strip, .ref q_t_kind, .ref q_t_byHand, .ref q_t_round, .ref q_t_lost, .ref q_t_shifts, .ref q_t_matrix, .ref q_t_right, .ref q_t_found, .ref q_t_high, .int t_highs, .ref q_t_near, .ref q_t_cells, .ref q_t_part, .ref q_t_before, .ref q_t_tape, .int t_taped, .int t_at, .int t_fault, .int t_steps, .ref q_t_what, .ref q_t_numbers])), (q_t_lanes, .inl (cy 0, (4, .inl t_lanes))), (q_t_sizes, .inl (cy 0, (4, .inl t_sizes))), (q_t_items, .inl (cy 0, (160, .inl t_items))), (q_t_spare, .inl (cy 0, (40, .inl t_spare)))] sz) (va_Qi (fun (r : Int32) (u : (Nat → Int32) × (Nat → Int32)) => Q r u.1 u.2) (py_B D (fun (u : (Nat → Int32) × (Nat → Int32)) => [(q_t, .inr (9, [.ref q_t_lanes, .ref q_t_sizes, .ref q_t_items, .ref q_t_spare, .ref q_t_many, .ref q_t_px, .ref q_t_py, .ref q_t_pz, .ref q_t_strip, .ref q_t_kind, .ref q_t_byHand, .ref q_t_round, .ref q_t_lost, .ref q_t_shifts, .ref q_t_matrix, .ref q_t_right, .ref q_t_found, .ref q_t_high, .int t_highs, .ref q_t_near, .ref q_t_cells, .ref q_t_part, .ref q_t_before, .ref q_t_tape, .int t_taped, .int t_at, .int t_fault, .int t_steps, .ref q_t_what, .ref q_t_numbers])), (q_t_lanes, .inl (cy 0, (4, .inl t_lanes))), (q_t_sizes, .inl (cy 0, (4, .inl t_sizes))), (q_t_items, .inl (cy 0, (160, .inl u.1))), (q_t_spare, .inl (cy 0, (40, .inl u.2)))]) (va_A [(q_t, .inr (9, [.ref q_t_lanes, .ref q_t_sizes, .ref q_t_items, .ref q_t_spare, .ref q_t_many, .ref q_t_px, .ref q_t_py, .ref q_t_pz, .ref q_t_strip, .ref q_t_kind, .ref q_t_byHand, .ref q_t_round, .ref q_t_lost, .ref q_t_shifts, .ref q_t_matrix, .ref q_t_right, .ref q_t_found, .ref q_t_high, .int t_highs, .ref q_t_near, .ref q_t_cells, .ref q_t_part, .ref q_t_before, .ref q_t_tape, .int t_taped, .int t_at, .int t_fault, .int t_steps, .ref q_t_what, .ref q_t_numbers])), (q_t_lanes, .inl (cy 0, (4, .inl t_lanes))), (q_t_sizes, .inl (cy 0, (4, .inl t_sizes))), (q_t_items, .inl (cy 0, (160, .inl t_items))), (q_t_spare, .inl (cy 0, (40, .inl t_spare)))] sz)) (va_A [(q_t, .inr (9, [.ref q_t_lanes, .ref q_t_sizes, .ref q_t_items, .ref q_t_spare, .ref q_t_many, .ref q_t_px, .ref q_t_py, .ref q_t_pz, .ref q_t_strip, .ref q_t_kind, .ref q_t_byHand, .ref q_t_round, .ref q_t_lost, .ref q_t_shifts, .ref q_t_matrix, .ref q_t_right, .ref q_t_found, .ref q_t_high, .int t_highs, .ref q_t_near, .ref q_t_cells, .ref q_t_part, .ref q_t_before, .ref q_t_tape, .int t_taped, .int t_at, .int t_fault, .int t_steps, .ref q_t_what, .ref q_t_numbers])), (q_t_lanes, .inl (cy 0, (4, .inl t_lanes))), (q_t_sizes, .inl (cy 0, (4, .inl t_sizes))), (q_t_items, .inl (cy 0, (160, .inl t_items))), (q_t_spare, .inl (cy 0, (40, .inl t_spare)))] sz)) 0 0 (va_A [(q_t, .inr (9, [.ref q_t_lanes, .ref q_t_sizes, .ref q_t_items, .ref q_t_spare, .ref q_t_many, .ref q_t_px, .ref q_t_py, .ref q_t_pz, .ref q_t_strip, .ref q_t_kind, .ref q_t_byHand, .ref q_t_round, .ref q_t_lost, .ref q_t_shifts, .ref q_t_matrix, .ref q_t_right, .ref q_t_found, .ref q_t_high, .int t_highs, .ref q_t_near, .ref q_t_cells, .ref q_t_part, .ref q_t_before, .ref q_t_tape, .int t_taped, .int t_at, .int t_fault, .int t_steps, .ref q_t_what, .ref q_t_numbers])), (q_t_lanes, .inl (cy 0, (4, .inl t_lanes))), (q_t_sizes, .inl (cy 0, (4, .inl t_sizes))), (q_t_items, .inl (cy 0, (160, .inl t_items))), (q_t_spare, .inl (cy 0, (40, .inl t_spare)))] sz) := by
  refine Met.ofW (cc := cX9_copy) (maxL := 7) (ret := (some .int)) (by decide) rfl ?_
  intro p e s m args below meth c s₁ B hml hv
  obtain ⟨rfl, hsz, hP, hKK, hD0⟩ := hv
  have hK := hKK.1
  have hN := hKK.2
  have hx := B.exec
  have hb := B.bytes
  have hr := B.returns
  have hts := atoms_spec (ws := wsX9_copy) B.pre
  have hown : s.vm.findClass RX9 = some m.cls := findClass_of_methodNamed B.named
  have hlocks := B.notSynchronized
  have hi_X9 : ∀ w ∈ wsX90, w ∈ wsX9_copy := fun w h => List.mem_cons_of_mem _ (List.mem_append_right _ (h))
  subst hsz
  have hD := hD0.self (sz := s.heap.size)
  generalize hAe : va_A [(q_t, .inr (9, [.ref q_t_lanes, .ref q_t_sizes, .ref q_t_items, .ref q_t_spare, .ref q_t_many, .ref q_t_px, .ref q_t_py, .ref q_t_pz, .ref q_t_strip, .ref q_t_kind, .ref q_t_byHand, .ref q_t_round, .ref q_t_lost, .ref q_t_shifts, .ref q_t_matrix, .ref q_t_right, .ref q_t_found, .ref q_t_high, .int t_highs, .ref q_t_near, .ref q_t_cells, .ref q_t_part, .ref q_t_before, .ref q_t_tape, .int t_taped, .int t_at, .int t_fault, .int t_steps, .ref q_t_what, .ref q_t_numbers])), (q_t_lanes, .inl (cy 0, (4, .inl t_lanes))), (q_t_sizes, .inl (cy 0, (4, .inl t_sizes))), (q_t_items, .inl (cy 0, (160, .inl t_items))), (q_t_spare, .inl (cy 0, (40, .inl t_spare)))] s.heap.size = A at hD ⊢
  have hA : ∀ q : Nat, s.heap.size ≤ q → A q := fun q h => by rw [← hAe]; exact Or.inr h
  have hS : va_S A s.heap s.heap [] := va_S.rf
  have hl := lv_entry ([.ref q_t, .int a1, .int a2, .int a3, .int a4, .int a5] : List Value) (n := 7) (Nat.le_of_ble_eq_true rfl)
  rw [lg_entry_eq]
  generalize (lg_sl ([.ref q_t, .int a1, .int a2, .int a3, .int a4, .int a5] : List Value) ++ List.replicate (7 - (lg_sl ([.ref q_t, .int a1, .int a2, .int a3, .int a4, .int a5] : List Value)).length) Slot.unset).toArray = ls at hl ⊢
  have hl : lv_has ls 7 [(0, .ref q_t), (1, .int a1), (2, .int a2), (3, .int a3), (4, .int a4), (5, .int a5)] := hl
  unfold wp_X9_copy at h
  refine lv_iload_n hx hb dX9_copy_0 rfl (lv_at hl 1 rfl) ?_
  refine lv_i2l (v := (a1.toInt64)) hx hb dX9_copy_1 rfl ?_
  refine lv_lconst (v := (0 : Int64)) hx hb dX9_copy_2 (by decide) ?_
  refine lv_ldc2 (v := (3 : Int64)) hx hb hown (hts (.constantLong RX9 87 (3)) (List.mem_of_getElem? (i := 1) rfl)) dX9_copy_3 ?_
  refine py_ci (py_rSp (As := [.long (a1.toInt64), .long (0 : Int64), .long (3 : Int64)]) ⟨hx, hb, hml, hown, hts⟩ hKK hP [] rfl (c_X9_in l D cy (a1.toInt64) (0 : Int64) (3 : Int64) _ h) (va_cwS 3 hts gX9_copy_X9_in rfl rfl rfl cd_X9_in ⟨Nat.le_of_ble_eq_true rfl, Nat.le_of_ble_eq_true rfl⟩) rfl hl.1 rfl (Nat.le_of_ble_eq_true rfl) ⟨Nat.zero_le _, Nat.zero_le _⟩ dX9_copy_6) (fun r_1 h => ?_)
  refine lv_if_eq (tgt := 24) hx hb dX9_copy_9 (by decide) (fun c_ => ?_) (fun c_ => ?_)
  · have h := h.1 c_
    refine lv_iconst (v := (-1 : Int32)) hx hb dX9_copy_24 (by decide) ?_
    exact W.iret (v := (-1 : Int32)) hx hb hr (fun t ht hW => ⟨⟨(-1 : Int32), (t_items, t_spare), rfl, h, by rw [ht]; exact hP, hD⟩, hS.F ht⟩) hS.2.2 dX9_copy_25
  · have h := h.2 c_
    refine lv_iload_n hx hb dX9_copy_12 rfl (lv_at hl 3 rfl) ?_
    refine lv_i2l (v := (a3.toInt64)) hx hb dX9_copy_13 rfl ?_
    refine lv_lconst (v := (0 : Int64)) hx hb dX9_copy_14 (by decide) ?_
    refine lv_ldc2 (v := (3 : Int64)) hx hb hown (hts (.constantLong RX9 87 (3)) (List.mem_of_getElem? (i := 1) rfl)) dX9_copy_15 ?_
    refine py_ci (py_rSp (As := [.long (a3.toInt64), .long (0 : Int64), .long (3 : Int64)]) ⟨hx, hb, hml, hown, hts⟩ hKK hP [] rfl (c_X9_in l D cy (a3.toInt64) (0 : Int64) (3 : Int64) _ h) (va_cwS 3 hts gX9_copy_X9_in rfl rfl rfl cd_X9_in ⟨Nat.le_of_ble_eq_true rfl, Nat.le_of_ble_eq_true rfl⟩) rfl hl.1 rfl (Nat.le_of_ble_eq_true rfl) ⟨Nat.zero_le _, Nat.zero_le _⟩ dX9_copy_18) (fun r_2 h => ?_)
    refine lv_if_ne (tgt := 26) hx hb dX9_copy_21 (by decide) (fun c_ => ?_) (fun c_ => ?_)
    · have h := h.2 c_
      refine lv_aload_n hx hb dX9_copy_26 rfl (lv_at hl 0 rfl) ?_
      refine va_get (D := D) (ci := 9) (C := RX9) (T := TX9) (N := 30) hx hb hts hi_X9 hown hK hP 0 rfl rfl 0 (by decide) (hts (.fieldLink RX9 7 "RayGroundModel" "lanes" "[I") (List.mem_of_getElem? (i := 2) rfl)) (fun _ h9 => h9) rfl dX9_copy_27 ?_
      refine lv_iload_n hx hb dX9_copy_30 rfl (lv_at hl 1 rfl) ?_
      refine py_iald hx hb hK hP 1 0 rfl rfl (k := a1.toNatClampNeg) rfl h.1 dX9_copy_31 ?_
      have h := h.2
      refine lv_if_lt (tgt := 44) hx hb dX9_copy_32 (by decide) (fun c_ => ?_) (fun c_ => ?_)
      · have h := h.1 c_
        refine lv_bipush (v := (-11 : Int32)) hx hb dX9_copy_44 (by decide) ?_
        exact W.iret (v := (-11 : Int32)) hx hb hr (fun t ht hW => ⟨⟨(-11 : Int32), (t_items, t_spare), rfl, h, by rw [ht]; exact hP, hD⟩, hS.F ht⟩) hS.2.2 dX9_copy_46
      · have h := h.2 c_
        refine lv_aload_n hx hb dX9_copy_35 rfl (lv_at hl 0 rfl) ?_
        refine va_get (D := D) (ci := 9) (C := RX9) (T := TX9) (N := 30) hx hb hts hi_X9 hown hK hP 0 rfl rfl 0 (by decide) (hts (.fieldLink RX9 7 "RayGroundModel" "lanes" "[I") (List.mem_of_getElem? (i := 2) rfl)) (fun _ h9 => h9) rfl dX9_copy_36 ?_
        refine lv_iload_n hx hb dX9_copy_39 rfl (lv_at hl 3 rfl) ?_
        refine py_iald hx hb hK hP 1 0 rfl rfl (k := a3.toNatClampNeg) rfl h.1 dX9_copy_40 ?_
        have h := h.2
        refine lv_if_ge (tgt := 47) hx hb dX9_copy_41 (by decide) (fun c_ => ?_) (fun c_ => ?_)
        · have h := h.1 c_
          refine lv_aload_n hx hb dX9_copy_47 rfl (lv_at hl 0 rfl) ?_
          refine va_get (D := D) (ci := 9) (C := RX9) (T := TX9) (N := 30) hx hb hts hi_X9 hown hK hP 0 rfl rfl 0 (by decide) (hts (.fieldLink RX9 7 "RayGroundModel" "lanes" "[I") (List.mem_of_getElem? (i := 2) rfl)) (fun _ h9 => h9) rfl dX9_copy_48 ?_
          refine lv_iload_n hx hb dX9_copy_51 rfl (lv_at hl 1 rfl) ?_
          refine py_iald hx hb hK hP 1 0 rfl rfl (k := a1.toNatClampNeg) rfl h.1 dX9_copy_52 ?_
          have h := h.2
          refine lv_aload_n hx hb dX9_copy_53 rfl (lv_at hl 0 rfl) ?_
          refine va_get (D := D) (ci := 9) (C := RX9) (T := TX9) (N := 30) hx hb hts hi_X9 hown hK hP 0 rfl rfl 0 (by decide) (hts (.fieldLink RX9 7 "RayGroundModel" "lanes" "[I") (List.mem_of_getElem? (i := 2) rfl)) (fun _ h9 => h9) rfl dX9_copy_54 ?_
          refine lv_iload_n hx hb dX9_copy_57 rfl (lv_at hl 3 rfl) ?_
          refine py_iald hx hb hK hP 1 0 rfl rfl (k := a3.toNatClampNeg) rfl h.1 dX9_copy_58 ?_
          have h := h.2
          refine lv_icmp_eq (tgt := 65) hx hb dX9_copy_59 (by decide) (fun c_ => ?_) (fun c_ => ?_)
          · have h := h.1 c_
            refine lv_iload_n hx hb dX9_copy_65 rfl (lv_at hl 2 rfl) ?_
            refine lv_iload hx hb dX9_copy_66 (lv_at hl 5 rfl) ?_
            refine lv_aload_n hx hb dX9_copy_68 rfl (lv_at hl 0 rfl) ?_
            refine va_get (D := D) (ci := 9) (C := RX9) (T := TX9) (N := 30) hx hb hts hi_X9 hown hK hP 0 rfl rfl 1 (by decide) (hts (.fieldLink RX9 13 "RayGroundModel" "sizes" "[I") (List.mem_of_getElem? (i := 3) rfl)) (fun _ h9 => h9) rfl dX9_copy_69 ?_
            refine lv_iload_n hx hb dX9_copy_72 rfl (lv_at hl 1 rfl) ?_
            refine py_iald hx hb hK hP 2 0 rfl rfl (k := a1.toNatClampNeg) rfl h.1 dX9_copy_73 ?_
            have h := h.2
            refine py_ci (py_rSp (As := [.int a2, .int a5, .int (t_sizes a1.toNatClampNeg)]) ⟨hx, hb, hml, hown, hts⟩ hKK hP [] rfl (c_X9_isSpan l D cy a2 a5 (t_sizes a1.toNatClampNeg) _ h) (va_cwS 3 hts gX9_copy_X9_isSpan rfl rfl rfl cd_X9_isSpan ⟨Nat.le_of_ble_eq_true rfl, Nat.le_of_ble_eq_true rfl⟩) rfl hl.1 rfl (Nat.le_of_ble_eq_true rfl) ⟨Nat.zero_le _, Nat.zero_le _⟩ dX9_copy_74) (fun r_3 h => ?_)
            refine lv_if_eq (tgt := 96) hx hb dX9_copy_77 (by decide) (fun c_ => ?_) (fun c_ => ?_)
            · have h := h.1 c_
              refine lv_bipush (v := (-13 : Int32)) hx hb dX9_copy_96 (by decide) ?_
              exact W.iret (v := (-13 : Int32)) hx hb hr (fun t ht hW => ⟨⟨(-13 : Int32), (t_items, t_spare), rfl, h, by rw [ht]; exact hP, hD⟩, hS.F ht⟩) hS.2.2 dX9_copy_98
            · have h := h.2 c_
              refine lv_iload hx hb dX9_copy_80 (lv_at hl 4 rfl) ?_
              refine lv_iload hx hb dX9_copy_82 (lv_at hl 5 rfl) ?_
              refine lv_aload_n hx hb dX9_copy_84 rfl (lv_at hl 0 rfl) ?_
              refine va_get (D := D) (ci := 9) (C := RX9) (T := TX9) (N := 30) hx hb hts hi_X9 hown hK hP 0 rfl rfl 1 (by decide) (hts (.fieldLink RX9 13 "RayGroundModel" "sizes" "[I") (List.mem_of_getElem? (i := 3) rfl)) (fun _ h9 => h9) rfl dX9_copy_85 ?_
              refine lv_iload_n hx hb dX9_copy_88 rfl (lv_at hl 3 rfl) ?_
              refine py_iald hx hb hK hP 2 0 rfl rfl (k := a3.toNatClampNeg) rfl h.1 dX9_copy_89 ?_
              have h := h.2
              refine py_ci (py_rSp (As := [.int a4, .int a5, .int (t_sizes a3.toNatClampNeg)]) ⟨hx, hb, hml, hown, hts⟩ hKK hP [] rfl (c_X9_isSpan l D cy a4 a5 (t_sizes a3.toNatClampNeg) _ h) (va_cwS 3 hts gX9_copy_X9_isSpan rfl rfl rfl cd_X9_isSpan ⟨Nat.le_of_ble_eq_true rfl, Nat.le_of_ble_eq_true rfl⟩) rfl hl.1 rfl (Nat.le_of_ble_eq_true rfl) ⟨Nat.zero_le _, Nat.zero_le _⟩ dX9_copy_90) (fun r_4 h => ?_)
              refine lv_if_ne (tgt := 99) hx hb dX9_copy_93 (by decide) (fun c_ => ?_) (fun c_ => ?_)
              · have h := h.2 c_
                have j136 : ∀ (t_items : Nat → Int32) (t_spare : Nat → Int32) (v3 : Int32) (v4 : Int32) (v5 : Int32) (H : Heap) (locs : List Loc), va_P D vwCl [(q_t, .inr (9, [.ref q_t_lanes, .ref q_t_sizes, .ref q_t_items, .ref q_t_spare, .ref q_t_many, .ref q_t_px, .ref q_t_py, .ref q_t_pz, .ref q_t_strip, .ref q_t_kind, .ref q_t_byHand, .ref q_t_round, .ref q_t_lost, .ref q_t_shifts, .ref q_t_matrix, .ref q_t_right, .ref q_t_found, .ref q_t_high, .int t_highs, .ref q_t_near, .ref q_t_cells, .ref q_t_part, .ref q_t_before, .ref q_t_tape, .int t_taped, .int t_at, .int t_fault, .int t_steps, .ref q_t_what, .ref q_t_numbers])), (q_t_lanes, .inl (cy 0, (4, .inl t_lanes))), (q_t_sizes, .inl (cy 0, (4, .inl t_sizes))), (q_t_items, .inl (cy 0, (160, .inl t_items))), (q_t_spare, .inl (cy 0, (40, .inl t_spare)))] H → va_D A [(q_t, .inr (9, [.ref q_t_lanes, .ref q_t_sizes, .ref q_t_items, .ref q_t_spare, .ref q_t_many, .ref q_t_px, .ref q_t_py, .ref q_t_pz, .ref q_t_strip, .ref q_t_kind, .ref q_t_byHand, .ref q_t_round, .ref q_t_lost, .ref q_t_shifts, .ref q_t_matrix, .ref q_t_right, .ref q_t_found, .ref q_t_high, .int t_highs, .ref q_t_near, .ref q_t_cells, .ref q_t_part, .ref q_t_before, .ref q_t_tape, .int t_taped, .int t_at, .int t_fault, .int t_steps, .ref q_t_what, .ref q_t_numbers])), (q_t_lanes, .inl (cy 0, (4, .inl t_lanes))), (q_t_sizes, .inl (cy 0, (4, .inl t_sizes))), (q_t_items, .inl (cy 0, (160, .inl t_items))), (q_t_spare, .inl (cy 0, (40, .inl t_spare)))] → va_S A s.heap H locs → ∀ (ls : Array Slot), lv_has ls 7 [(0, .ref q_t), (3, .int v3), (4, .int v4), (5, .int v5)] → wp_X9_copy_b136 Q t_items t_spare v3 v4 v5 → W p l e (headSpec wsX9_copy ({ frames := 1, cells := 0, slots := 0, locals := 25 } : Room)).room s m (([.ref q_t, .int a1, .int a2, .int a3, .int a4, .int a5] : List Value)).toArray below meth c H locs 0 0 (MQ below (va_Qi (fun (r : Int32) (u : (Nat → Int32) × (Nat → Int32)) => Q r u.1 u.2) (py_B D (fun (u : (Nat → Int32) × (Nat → Int32)) => [(q_t, .inr (9, [.ref q_t_lanes, .ref q_t_sizes, .ref q_t_items, .ref q_t_spare, .ref q_t_many, .ref q_t_px, .ref q_t_py, .ref q_t_pz, .ref q_t_strip, .ref q_t_kind, .ref q_t_byHand, .ref q_t_round, .ref q_t_lost, .ref q_t_shifts, .ref q_t_matrix, .ref q_t_right, .ref q_t_found, .ref q_t_high, .int t_highs, .ref q_t_near, .ref q_t_cells, .ref q_t_part, .ref q_t_before, .ref q_t_tape, .int t_taped, .int t_at, .int t_fault, .int t_steps, .ref q_t_what, .ref q_t_numbers])), (q_t_lanes, .inl (cy 0, (4, .inl t_lanes))), (q_t_sizes, .inl (cy 0, (4, .inl t_sizes))), (q_t_items, .inl (cy 0, (160, .inl u.1))), (q_t_spare, .inl (cy 0, (40, .inl u.2)))]) A) A) (([.ref q_t, .int a1, .int a2, .int a3, .int a4, .int a5] : List Value)).toArray s 0 0 A) (F0 m 136 ls []) := by
                  intro t_items t_spare v3 v4 v5 H locs hP hD hS ls hl h
                  unfold wp_X9_copy_b136 at h
                  have lp139 : ∀ (t_spare : Nat → Int32) (v3 : Int32) (v4 : Int32) (v5 : Int32) (n139 : Nat) (t_items : Nat → Int32) (v6 : Int32) (H : Heap) (locs : List Loc), va_P D vwCl [(q_t, .inr (9, [.ref q_t_lanes, .ref q_t_sizes, .ref q_t_items, .ref q_t_spare, .ref q_t_many, .ref q_t_px, .ref q_t_py, .ref q_t_pz, .ref q_t_strip, .ref q_t_kind, .ref q_t_byHand, .ref q_t_round, .ref q_t_lost, .ref q_t_shifts, .ref q_t_matrix, .ref q_t_right, .ref q_t_found, .ref q_t_high, .int t_highs, .ref q_t_near, .ref q_t_cells, .ref q_t_part, .ref q_t_before, .ref q_t_tape, .int t_taped, .int t_at, .int t_fault, .int t_steps, .ref q_t_what, .ref q_t_numbers])), (q_t_lanes, .inl (cy 0, (4, .inl t_lanes))), (q_t_sizes, .inl (cy 0, (4, .inl t_sizes))), (q_t_items, .inl (cy 0, (160, .inl t_items))), (q_t_spare, .inl (cy 0, (40, .inl t_spare)))] H → va_D A [(q_t, .inr (9, [.ref q_t_lanes, .ref q_t_sizes, .ref q_t_items, .ref q_t_spare, .ref q_t_many, .ref q_t_px, .ref q_t_py, .ref q_t_pz, .ref q_t_strip, .ref q_t_kind, .ref q_t_byHand, .ref q_t_round, .ref q_t_lost, .ref q_t_shifts, .ref q_t_matrix, .ref q_t_right, .ref q_t_found, .ref q_t_high, .int t_highs, .ref q_t_near, .ref q_t_cells, .ref q_t_part, .ref q_t_before, .ref q_t_tape, .int t_taped, .int t_at, .int t_fault, .int t_steps, .ref q_t_what, .ref q_t_numbers])), (q_t_lanes, .inl (cy 0, (4, .inl t_lanes))), (q_t_sizes, .inl (cy 0, (4, .inl t_sizes))), (q_t_items, .inl (cy 0, (160, .inl t_items))), (q_t_spare, .inl (cy 0, (40, .inl t_spare)))] → va_S A s.heap H locs → ∀ (ls : Array Slot), lv_has ls 7 [(0, .ref q_t), (3, .int v3), (4, .int v4), (5, .int v5), (6, .int v6)] → wp_X9_copy_b139 Q t_spare v3 v4 v5 n139 t_items v6 → W p l e (headSpec wsX9_copy ({ frames := 1, cells := 0, slots := 0, locals := 25 } : Room)).room s m (([.ref q_t, .int a1, .int a2, .int a3, .int a4, .int a5] : List Value)).toArray below meth c H locs 0 0 (MQ below (va_Qi (fun (r : Int32) (u : (Nat → Int32) × (Nat → Int32)) => Q r u.1 u.2) (py_B D (fun (u : (Nat → Int32) × (Nat → Int32)) => [(q_t, .inr (9, [.ref q_t_lanes, .ref q_t_sizes, .ref q_t_items, .ref q_t_spare, .ref q_t_many, .ref q_t_px, .ref q_t_py, .ref q_t_pz, .ref q_t_strip, .ref q_t_kind, .ref q_t_byHand, .ref q_t_round, .ref q_t_lost, .ref q_t_shifts, .ref q_t_matrix, .ref q_t_right, .ref q_t_found, .ref q_t_high, .int t_highs, .ref q_t_near, .ref q_t_cells, .ref q_t_part, .ref q_t_before, .ref q_t_tape, .int t_taped, .int t_at, .int t_fault, .int t_steps, .ref q_t_what, .ref q_t_numbers])), (q_t_lanes, .inl (cy 0, (4, .inl t_lanes))), (q_t_sizes, .inl (cy 0, (4, .inl t_sizes))), (q_t_items, .inl (cy 0, (160, .inl u.1))), (q_t_spare, .inl (cy 0, (40, .inl u.2)))]) A) A) (([.ref q_t, .int a1, .int a2, .int a3, .int a4, .int a5] : List Value)).toArray s 0 0 A) (F0 m 139 ls []) := by
                    intro t_spare v3 v4 v5 n139
                    induction n139 with
                    | zero => intro t_items v6 H locs hP hD hS ls hl h; exact False.elim h
                    | succ n139 ih139 =>
                      intro t_items v6 H locs hP hD hS ls hl h
                      have h : wp_X9_copy_b139_f (wp_X9_copy_b139 Q t_spare v3 v4 v5 n139) Q t_spare v3 v4 v5 t_items v6 := h
                      unfold wp_X9_copy_b139_f at h
                      refine lv_iload hx hb dX9_copy_139 (lv_at hl 4 rfl) ?_
                      refine lv_iload hx hb dX9_copy_141 (lv_at hl 3 rfl) ?_
                      refine lv_icmp_ge (tgt := 174) hx hb dX9_copy_143 (by decide) (fun c_ => ?_) (fun c_ => ?_)
                      · have h := h.1 c_
                        refine lv_iload hx hb dX9_copy_174 (lv_at hl 3 rfl) ?_
                        exact W.iret (v := v5) hx hb hr (fun t ht hW => ⟨⟨v5, (t_items, t_spare), rfl, h, by rw [ht]; exact hP, hD⟩, hS.F ht⟩) hS.2.2 dX9_copy_176
                      · have h := h.2 c_
                        refine lv_aload_n hx hb dX9_copy_146 rfl (lv_at hl 0 rfl) ?_
                        refine va_get (D := D) (ci := 9) (C := RX9) (T := TX9) (N := 30) hx hb hts hi_X9 hown hK hP 0 rfl rfl 2 (by decide) (hts (.fieldLink RX9 16 "RayGroundModel" "items" "[I") (List.mem_of_getElem? (i := 5) rfl)) (fun _ h9 => h9) rfl dX9_copy_147 ?_
                        refine lv_bipush (v := (40 : Int32)) hx hb dX9_copy_150 (by decide) ?_
                        refine lv_iload_n hx hb dX9_copy_152 rfl (lv_at hl 1 rfl) ?_
                        refine lv_imul hx hb dX9_copy_153 ?_
                        refine lv_iload hx hb dX9_copy_154 (lv_at hl 2 rfl) ?_
                        refine lv_iadd hx hb dX9_copy_156 ?_
                        refine lv_iload hx hb dX9_copy_157 (lv_at hl 4 rfl) ?_
                        refine lv_iadd hx hb dX9_copy_159 ?_
                        refine lv_aload_n hx hb dX9_copy_160 rfl (lv_at hl 0 rfl) ?_
                        refine va_get (D := D) (ci := 9) (C := RX9) (T := TX9) (N := 30) hx hb hts hi_X9 hown hK hP 0 rfl rfl 3 (by decide) (hts (.fieldLink RX9 19 "RayGroundModel" "spare" "[I") (List.mem_of_getElem? (i := 4) rfl)) (fun _ h9 => h9) rfl dX9_copy_161 ?_
                        refine lv_iload hx hb dX9_copy_164 (lv_at hl 4 rfl) ?_
                        refine py_iald hx hb hK hP 4 0 rfl rfl (k := v6.toNatClampNeg) rfl h.1 dX9_copy_166 ?_
                        have h := h.2
                        refine py_iast hx hb hK hP hD hS 3 0 rfl rfl (k := ((((40 : Int32) * v3) + v4) + v6).toNatClampNeg) rfl h.1 dX9_copy_167 (fun H locs hP hD hS => ?_)
                        have h := h.2
                        have hP : va_P D vwCl [(q_t, .inr (9, [.ref q_t_lanes, .ref q_t_sizes, .ref q_t_items, .ref q_t_spare, .ref q_t_many, .ref q_t_px, .ref q_t_py, .ref q_t_pz, .ref q_t_strip, .ref q_t_kind, .ref q_t_byHand, .ref q_t_round, .ref q_t_lost, .ref q_t_shifts, .ref q_t_matrix, .ref q_t_right, .ref q_t_found, .ref q_t_high, .int t_highs, .ref q_t_near, .ref q_t_cells, .ref q_t_part, .ref q_t_before, .ref q_t_tape, .int t_taped, .int t_at, .int t_fault, .int t_steps, .ref q_t_what, .ref q_t_numbers])), (q_t_lanes, .inl (cy 0, (4, .inl t_lanes))), (q_t_sizes, .inl (cy 0, (4, .inl t_sizes))), (q_t_items, .inl (cy 0, (160, .inl (upd t_items (((((40 : Int32) * v3) + v4) + v6).toNatClampNeg) (t_spare v6.toNatClampNeg))))), (q_t_spare, .inl (cy 0, (40, .inl t_spare)))] H := hP
                        have hD : va_D A [(q_t, .inr (9, [.ref q_t_lanes, .ref q_t_sizes, .ref q_t_items, .ref q_t_spare, .ref q_t_many, .ref q_t_px, .ref q_t_py, .ref q_t_pz, .ref q_t_strip, .ref q_t_kind, .ref q_t_byHand, .ref q_t_round, .ref q_t_lost, .ref q_t_shifts, .ref q_t_matrix, .ref q_t_right, .ref q_t_found, .ref q_t_high, .int t_highs, .ref q_t_near, .ref q_t_cells, .ref q_t_part, .ref q_t_before, .ref q_t_tape, .int t_taped, .int t_at, .int t_fault, .int t_steps, .ref q_t_what, .ref q_t_numbers])), (q_t_lanes, .inl (cy 0, (4, .inl t_lanes))), (q_t_sizes, .inl (cy 0, (4, .inl t_sizes))), (q_t_items, .inl (cy 0, (160, .inl (upd t_items (((((40 : Int32) * v3) + v4) + v6).toNatClampNeg) (t_spare v6.toNatClampNeg))))), (q_t_spare, .inl (cy 0, (40, .inl t_spare)))] := hD
                        obtain ⟨v6_5, ev6_5⟩ : ∃ y : Int32, y = v6 + (1 : Int32) := ⟨_, rfl⟩
                        have h := h v6_5 ev6_5
                        refine lv_iinc (v := v6_5) (lv' := [(6, .int v6_5), (0, .ref q_t), (3, .int v3), (4, .int v4), (5, .int v5)]) hx hb dX9_copy_168 hl (k := 4) rfl (by rw [ev6_5]; rfl) (by decide) rfl (fun ls hl => ?_)
                        refine lv_goto (tgt := 139) hx hb dX9_copy_171 (by decide) ?_
                        exact ih139 (upd t_items (((((40 : Int32) * v3) + v4) + v6).toNatClampNeg) (t_spare v6.toNatClampNeg)) v6_5 _ _ hP hD hS _ (lv_sub hl [1, 2, 3, 4, 0] rfl) h
                  refine lv_iconst (v := (0 : Int32)) hx hb dX9_copy_136 (by decide) ?_
                  refine lv_istore (lv' := [(6, .int (0 : Int32)), (0, .ref q_t), (3, .int v3), (4, .int v4), (5, .int v5)]) hx hb dX9_copy_137 hl (by decide) rfl (fun ls hl => ?_)
                  obtain ⟨n, h⟩ := h
                  exact lp139 t_spare v3 v4 v5 n t_items (0 : Int32) _ _ hP hD hS _ (lv_sub hl [1, 2, 3, 4, 0] rfl) h
                have lp102 : ∀ (t_items : Nat → Int32) (v1 : Int32) (v2 : Int32) (v3 : Int32) (v4 : Int32) (v5 : Int32) (n102 : Nat) (t_spare : Nat → Int32) (v6 : Int32) (H : Heap) (locs : List Loc), va_P D vwCl [(q_t, .inr (9, [.ref q_t_lanes, .ref q_t_sizes, .ref q_t_items, .ref q_t_spare, .ref q_t_many, .ref q_t_px, .ref q_t_py, .ref q_t_pz, .ref q_t_strip, .ref q_t_kind, .ref q_t_byHand, .ref q_t_round, .ref q_t_lost, .ref q_t_shifts, .ref q_t_matrix, .ref q_t_right, .ref q_t_found, .ref q_t_high, .int t_highs, .ref q_t_near, .ref q_t_cells, .ref q_t_part, .ref q_t_before, .ref q_t_tape, .int t_taped, .int t_at, .int t_fault, .int t_steps, .ref q_t_what, .ref q_t_numbers])), (q_t_lanes, .inl (cy 0, (4, .inl t_lanes))), (q_t_sizes, .inl (cy 0, (4, .inl t_sizes))), (q_t_items, .inl (cy 0, (160, .inl t_items))), (q_t_spare, .inl (cy 0, (40, .inl t_spare)))] H → va_D A [(q_t, .inr (9, [.ref q_t_lanes, .ref q_t_sizes, .ref q_t_items, .ref q_t_spare, .ref q_t_many, .ref q_t_px, .ref q_t_py, .ref q_t_pz, .ref q_t_strip, .ref q_t_kind, .ref q_t_byHand, .ref q_t_round, .ref q_t_lost, .ref q_t_shifts, .ref q_t_matrix, .ref q_t_right, .ref q_t_found, .ref q_t_high, .int t_highs, .ref q_t_near, .ref q_t_cells, .ref q_t_part, .ref q_t_before, .ref q_t_tape, .int t_taped, .int t_at, .int t_fault, .int t_steps, .ref q_t_what, .ref q_t_numbers])), (q_t_lanes, .inl (cy 0, (4, .inl t_lanes))), (q_t_sizes, .inl (cy 0, (4, .inl t_sizes))), (q_t_items, .inl (cy 0, (160, .inl t_items))), (q_t_spare, .inl (cy 0, (40, .inl t_spare)))] → va_S A s.heap H locs → ∀ (ls : Array Slot), lv_has ls 7 [(0, .ref q_t), (1, .int v1), (2, .int v2), (3, .int v3), (4, .int v4), (5, .int v5), (6, .int v6)] → wp_X9_copy_b102 (wp_X9_copy_b136 Q) t_items v1 v2 v3 v4 v5 n102 t_spare v6 → W p l e (headSpec wsX9_copy ({ frames := 1, cells := 0, slots := 0, locals := 25 } : Room)).room s m (([.ref q_t, .int a1, .int a2, .int a3, .int a4, .int a5] : List Value)).toArray below meth c H locs 0 0 (MQ below (va_Qi (fun (r : Int32) (u : (Nat → Int32) × (Nat → Int32)) => Q r u.1 u.2) (py_B D (fun (u : (Nat → Int32) × (Nat → Int32)) => [(q_t, .inr (9, [.ref q_t_lanes, .ref q_t_sizes, .ref q_t_items, .ref q_t_spare, .ref q_t_many, .ref q_t_px, .ref q_t_py, .ref q_t_pz, .ref q_t_strip, .ref q_t_kind, .ref q_t_byHand, .ref q_t_round, .ref q_t_lost, .ref q_t_shifts, .ref q_t_matrix, .ref q_t_right, .ref q_t_found, .ref q_t_high, .int t_highs, .ref q_t_near, .ref q_t_cells, .ref q_t_part, .ref q_t_before, .ref q_t_tape, .int t_taped, .int t_at, .int t_fault, .int t_steps, .ref q_t_what, .ref q_t_numbers])), (q_t_lanes, .inl (cy 0, (4, .inl t_lanes))), (q_t_sizes, .inl (cy 0, (4, .inl t_sizes))), (q_t_items, .inl (cy 0, (160, .inl u.1))), (q_t_spare, .inl (cy 0, (40, .inl u.2)))]) A) A) (([.ref q_t, .int a1, .int a2, .int a3, .int a4, .int a5] : List Value)).toArray s 0 0 A) (F0 m 102 ls []) := by
                  intro t_items v1 v2 v3 v4 v5 n102
                  induction n102 with
                  | zero => intro t_spare v6 H locs hP hD hS ls hl h; exact False.elim h
                  | succ n102 ih102 =>
                    intro t_spare v6 H locs hP hD hS ls hl h
                    have h : wp_X9_copy_b102_f (wp_X9_copy_b102 (wp_X9_copy_b136 Q) t_items v1 v2 v3 v4 v5 n102) (wp_X9_copy_b136 Q) t_items v1 v2 v3 v4 v5 t_spare v6 := h
                    unfold wp_X9_copy_b102_f at h
                    refine lv_iload hx hb dX9_copy_102 (lv_at hl 6 rfl) ?_
                    refine lv_iload hx hb dX9_copy_104 (lv_at hl 5 rfl) ?_
                    refine lv_icmp_ge (tgt := 136) hx hb dX9_copy_106 (by decide) (fun c_ => ?_) (fun c_ => ?_)
                    · have h := h.1 c_
                      exact j136 t_items t_spare v3 v4 v5 _ _ hP hD hS _ (lv_sub hl [0, 3, 4, 5] rfl) h
                    · have h := h.2 c_
                      refine lv_aload_n hx hb dX9_copy_109 rfl (lv_at hl 0 rfl) ?_
                      refine va_get (D := D) (ci := 9) (C := RX9) (T := TX9) (N := 30) hx hb hts hi_X9 hown hK hP 0 rfl rfl 3 (by decide) (hts (.fieldLink RX9 19 "RayGroundModel" "spare" "[I") (List.mem_of_getElem? (i := 4) rfl)) (fun _ h9 => h9) rfl dX9_copy_110 ?_
                      refine lv_iload hx hb dX9_copy_113 (lv_at hl 6 rfl) ?_
                      refine lv_aload_n hx hb dX9_copy_115 rfl (lv_at hl 0 rfl) ?_
                      refine va_get (D := D) (ci := 9) (C := RX9) (T := TX9) (N := 30) hx hb hts hi_X9 hown hK hP 0 rfl rfl 2 (by decide) (hts (.fieldLink RX9 16 "RayGroundModel" "items" "[I") (List.mem_of_getElem? (i := 5) rfl)) (fun _ h9 => h9) rfl dX9_copy_116 ?_
                      refine lv_bipush (v := (40 : Int32)) hx hb dX9_copy_119 (by decide) ?_
                      refine lv_iload_n hx hb dX9_copy_121 rfl (lv_at hl 1 rfl) ?_
                      refine lv_imul hx hb dX9_copy_122 ?_
                      refine lv_iload_n hx hb dX9_copy_123 rfl (lv_at hl 2 rfl) ?_
                      refine lv_iadd hx hb dX9_copy_124 ?_
                      refine lv_iload hx hb dX9_copy_125 (lv_at hl 6 rfl) ?_
                      refine lv_iadd hx hb dX9_copy_127 ?_
                      refine py_iald hx hb hK hP 3 0 rfl rfl (k := ((((40 : Int32) * v1) + v2) + v6).toNatClampNeg) rfl h.1 dX9_copy_128 ?_
                      have h := h.2
                      refine py_iast hx hb hK hP hD hS 4 0 rfl rfl (k := v6.toNatClampNeg) rfl h.1 dX9_copy_129 (fun H locs hP hD hS => ?_)
                      have h := h.2
                      have hP : va_P D vwCl [(q_t, .inr (9, [.ref q_t_lanes, .ref q_t_sizes, .ref q_t_items, .ref q_t_spare, .ref q_t_many, .ref q_t_px, .ref q_t_py, .ref q_t_pz, .ref q_t_strip, .ref q_t_kind, .ref q_t_byHand, .ref q_t_round, .ref q_t_lost, .ref q_t_shifts, .ref q_t_matrix, .ref q_t_right, .ref q_t_found, .ref q_t_high, .int t_highs, .ref q_t_near, .ref q_t_cells, .ref q_t_part, .ref q_t_before, .ref q_t_tape, .int t_taped, .int t_at, .int t_fault, .int t_steps, .ref q_t_what, .ref q_t_numbers])), (q_t_lanes, .inl (cy 0, (4, .inl t_lanes))), (q_t_sizes, .inl (cy 0, (4, .inl t_sizes))), (q_t_items, .inl (cy 0, (160, .inl t_items))), (q_t_spare, .inl (cy 0, (40, .inl (upd t_spare v6.toNatClampNeg (t_items (((((40 : Int32) * v1) + v2) + v6).toNatClampNeg))))))] H := hP
                      have hD : va_D A [(q_t, .inr (9, [.ref q_t_lanes, .ref q_t_sizes, .ref q_t_items, .ref q_t_spare, .ref q_t_many, .ref q_t_px, .ref q_t_py, .ref q_t_pz, .ref q_t_strip, .ref q_t_kind, .ref q_t_byHand, .ref q_t_round, .ref q_t_lost, .ref q_t_shifts, .ref q_t_matrix, .ref q_t_right, .ref q_t_found, .ref q_t_high, .int t_highs, .ref q_t_near, .ref q_t_cells, .ref q_t_part, .ref q_t_before, .ref q_t_tape, .int t_taped, .int t_at, .int t_fault, .int t_steps, .ref q_t_what, .ref q_t_numbers])), (q_t_lanes, .inl (cy 0, (4, .inl t_lanes))), (q_t_sizes, .inl (cy 0, (4, .inl t_sizes))), (q_t_items, .inl (cy 0, (160, .inl t_items))), (q_t_spare, .inl (cy 0, (40, .inl (upd t_spare v6.toNatClampNeg (t_items (((((40 : Int32) * v1) + v2) + v6).toNatClampNeg))))))] := hD
                      obtain ⟨v6_6, ev6_6⟩ : ∃ y : Int32, y = v6 + (1 : Int32) := ⟨_, rfl⟩
                      have h := h v6_6 ev6_6
                      refine lv_iinc (v := v6_6) (lv' := [(6, .int v6_6), (0, .ref q_t), (1, .int v1), (2, .int v2), (3, .int v3), (4, .int v4), (5, .int v5)]) hx hb dX9_copy_130 hl (k := 6) rfl (by rw [ev6_6]; rfl) (by decide) rfl (fun ls hl => ?_)
                      refine lv_goto (tgt := 102) hx hb dX9_copy_133 (by decide) ?_
                      exact ih102 (upd t_spare v6.toNatClampNeg (t_items (((((40 : Int32) * v1) + v2) + v6).toNatClampNeg))) v6_6 _ _ hP hD hS _ (lv_sub hl [1, 2, 3, 4, 5, 6, 0] rfl) h
                refine lv_iconst (v := (0 : Int32)) hx hb dX9_copy_99 (by decide) ?_
                refine lv_istore (lv' := [(6, .int (0 : Int32)), (0, .ref q_t), (1, .int a1), (2, .int a2), (3, .int a3), (4, .int a4), (5, .int a5)]) hx hb dX9_copy_100 hl (by decide) rfl (fun ls hl => ?_)
                obtain ⟨n, h⟩ := h
                exact lp102 t_items a1 a2 a3 a4 a5 n t_spare (0 : Int32) _ _ hP hD hS _ (lv_sub hl [1, 2, 3, 4, 5, 6, 0] rfl) h
              · have h := h.1 c_
                refine lv_bipush (v := (-13 : Int32)) hx hb dX9_copy_96 (by decide) ?_
                exact W.iret (v := (-13 : Int32)) hx hb hr (fun t ht hW => ⟨⟨(-13 : Int32), (t_items, t_spare), rfl, h, by rw [ht]; exact hP, hD⟩, hS.F ht⟩) hS.2.2 dX9_copy_98
          · have h := h.2 c_
            refine lv_bipush (v := (-12 : Int32)) hx hb dX9_copy_62 (by decide) ?_
            exact W.iret (v := (-12 : Int32)) hx hb hr (fun t ht hW => ⟨⟨(-12 : Int32), (t_items, t_spare), rfl, h, by rw [ht]; exact hP, hD⟩, hS.F ht⟩) hS.2.2 dX9_copy_64
        · have h := h.2 c_
          refine lv_bipush (v := (-11 : Int32)) hx hb dX9_copy_44 (by decide) ?_
          exact W.iret (v := (-11 : Int32)) hx hb hr (fun t ht hW => ⟨⟨(-11 : Int32), (t_items, t_spare), rfl, h, by rw [ht]; exact hP, hD⟩, hS.F ht⟩) hS.2.2 dX9_copy_46
    · have h := h.1 c_
      refine lv_iconst (v := (-1 : Int32)) hx hb dX9_copy_24 (by decide) ?_
      exact W.iret (v := (-1 : Int32)) hx hb hr (fun t ht hW => ⟨⟨(-1 : Int32), (t_items, t_spare), rfl, h, by rw [ht]; exact hP, hD⟩, hS.F ht⟩) hS.2.2 dX9_copy_25
set_option maxHeartbeats 4000000 in
set_option maxRecDepth 100000 in
theorem c_X9_isYear (l : Launch) (D : va_G) (cy : Nat → ClassId) (a0 : Int32) (Q : Int32 → Prop) (h : wp_X9_isYear a0 Q) : Met l yX9_isYear wsX9_isYear ({ frames := 1, cells := 0, slots := 0, locals := 25 } : Room) (py_Pp ([.int a0] : List Value) D cy []) (vp_Si Q) 0 0 (fun _ => False) := by
  refine Met.ofW (cc := cX9_isYear) (maxL := 1) (ret := (some .boolean)) (by decide) rfl ?_
  intro p e s m args below meth c s₁ B hml hv
  obtain ⟨rfl, hP, hKK⟩ := hv
  have hK := hKK.1
  have hN := hKK.2
  have hx := B.exec
  have hb := B.bytes
  have hr := B.returns
  have hts := atoms_spec (ws := wsX9_isYear) B.pre
  have hown : s.vm.findClass RX9 = some m.cls := findClass_of_methodNamed B.named
  have hlocks := B.notSynchronized
  have hl := lv_entry ([.int a0] : List Value) (n := 1) (Nat.le_of_ble_eq_true rfl)
  rw [lg_entry_eq]
  generalize (lg_sl ([.int a0] : List Value) ++ List.replicate (1 - (lg_sl ([.int a0] : List Value)).length) Slot.unset).toArray = ls at hl ⊢
  have hl : lv_has ls 1 [(0, .int a0)] := hl
  unfold wp_X9_isYear at h
  refine lv_iload_n hx hb dX9_isYear_0 rfl (lv_at hl 0 rfl) ?_
  refine lv_i2l (v := (a0.toInt64)) hx hb dX9_isYear_1 rfl ?_
  refine lv_lconst (v := (0 : Int64)) hx hb dX9_isYear_2 (by decide) ?_
  refine lv_lconst (v := (1 : Int64)) hx hb dX9_isYear_3 (by decide) ?_
  refine py_ci (py_rSp (As := [.long (a0.toInt64), .long (0 : Int64), .long (1 : Int64)]) ⟨hx, hb, hml, hown, hts⟩ hKK hP [] rfl (c_X9_in l D cy (a0.toInt64) (0 : Int64) (1 : Int64) _ h) (va_cwS 3 hts gX9_isYear_X9_in rfl rfl rfl cd_X9_in ⟨Nat.le_of_ble_eq_true rfl, Nat.le_of_ble_eq_true rfl⟩) rfl hl.1 rfl (Nat.le_of_ble_eq_true rfl) ⟨Nat.zero_le _, Nat.zero_le _⟩ dX9_isYear_4) (fun r_1 h => ?_)
  have hz := py_nz h.1
  have h := h.2
  exact W.zret (v := r_1) hx hb hr hz (fun t ht hW => ⟨r_1, rfl, h, ht⟩) (fun _ hq => by cases hq) dX9_isYear_7
set_option maxHeartbeats 4000000 in
set_option maxRecDepth 100000 in
theorem c_X9_tileOf (l : Launch) (D : va_G) (cy : Nat → ClassId) (a0 : Int32) (a1 : Int32) (Q : Int32 → Prop) (h : wp_X9_tileOf a0 a1 Q) : Met l yX9_tileOf wsX9_tileOf ({ frames := 0, cells := 0, slots := 0, locals := 0 } : Room) (py_Pp ([.int a0, .int a1] : List Value) D cy []) (vp_Si Q) 0 0 (fun _ => False) := by
  refine Met.ofW (cc := cX9_tileOf) (maxL := 2) (ret := (some .int)) (by decide) rfl ?_
  intro p e s m args below meth c s₁ B hml hv
  obtain ⟨rfl, hP, hKK⟩ := hv
  have hK := hKK.1
  have hN := hKK.2
  have hx := B.exec
  have hb := B.bytes
  have hr := B.returns
  have hts := atoms_spec (ws := wsX9_tileOf) B.pre
  have hown : s.vm.findClass RX9 = some m.cls := findClass_of_methodNamed B.named
  have hlocks := B.notSynchronized
  have hl := lv_entry ([.int a0, .int a1] : List Value) (n := 2) (Nat.le_of_ble_eq_true rfl)
  rw [lg_entry_eq]
  generalize (lg_sl ([.int a0, .int a1] : List Value) ++ List.replicate (2 - (lg_sl ([.int a0, .int a1] : List Value)).length) Slot.unset).toArray = ls at hl ⊢
  have hl : lv_has ls 2 [(0, .int a0), (1, .int a1)] := hl
  unfold wp_X9_tileOf at h
  refine lv_iload_n hx hb dX9_tileOf_0 rfl (lv_at hl 0 rfl) ?_
  refine lv_bipush (v := (16 : Int32)) hx hb dX9_tileOf_1 (by decide) ?_
  refine lv_idiv hx hb dX9_tileOf_3 (by decide) ?_
  refine lv_iconst (v := (4 : Int32)) hx hb dX9_tileOf_4 (by decide) ?_
  refine lv_iload_n hx hb dX9_tileOf_5 rfl (lv_at hl 1 rfl) ?_
  refine lv_bipush (v := (16 : Int32)) hx hb dX9_tileOf_6 (by decide) ?_
  refine lv_idiv hx hb dX9_tileOf_8 (by decide) ?_
  refine lv_imul hx hb dX9_tileOf_9 ?_
  refine lv_iadd hx hb dX9_tileOf_10 ?_
  exact W.iret (v := ((a0 / (16 : Int32)) + ((4 : Int32) * (a1 / (16 : Int32))))) hx hb hr (fun t ht hW => ⟨((a0 / (16 : Int32)) + ((4 : Int32) * (a1 / (16 : Int32)))), rfl, h, ht⟩) (fun _ hq => by cases hq) dX9_tileOf_11
set_option maxHeartbeats 4000000 in
set_option maxRecDepth 100000 in
theorem c_X9_isPoint (l : Launch) (D : va_G) (cy : Nat → ClassId) (q_t_lanes q_t_sizes q_t_items q_t_spare q_t_many q_t_px q_t_py q_t_pz q_t_strip q_t_kind q_t_byHand q_t_round q_t_lost q_t_shifts q_t_matrix q_t_right q_t_found q_t_high q_t_near q_t_cells q_t_part q_t_before q_t_tape q_t_what q_t_numbers q_t : Nat) (t_highs : Int32) (t_taped : Int32) (t_at : Int32) (t_fault : Int32) (t_steps : Int32) (t_lost : Nat → Int32) (a1 : Int32) (a2 : Int32) (a3 : Int32) (a4 : Int32) (a5 : Int32) (Q : Int32 → Prop) (h : wp_X9_isPoint t_lost a1 a2 a3 a4 a5 Q) : Met l yX9_isPoint wsX9_isPoint ({ frames := 1, cells := 0, slots := 0, locals := 25 } : Room) (py_Pp ([.ref q_t, .int a1, .int a2, .int a3, .int a4, .int a5] : List Value) D cy [(q_t, .inr (9, [.ref q_t_lanes, .ref q_t_sizes, .ref q_t_items, .ref q_t_spare, .ref q_t_many, .ref q_t_px, .ref q_t_py, .ref q_t_pz, .ref q_t_strip, .ref q_t_kind, .ref q_t_byHand, .ref q_t_round, .ref q_t_lost, .ref q_t_shifts, .ref q_t_matrix, .ref q_t_right, .ref q_t_found, .ref q_t_high, .int t_highs, .ref q_t_near, .ref q_t_cells, .ref q_t_part, .ref q_t_before, .ref q_t_tape, .int t_taped, .int t_at, .int t_fault, .int t_steps, .ref q_t_what, .ref q_t_numbers])), (q_t_lost, .inl (cy 1, (32, .inl t_lost)))]) (vp_Si Q) 0 0 (fun _ => False) := by
  refine Met.ofW (cc := cX9_isPoint) (maxL := 6) (ret := (some .boolean)) (by decide) rfl ?_
  intro p e s m args below meth c s₁ B hml hv
  obtain ⟨rfl, hP, hKK⟩ := hv
  have hK := hKK.1
  have hN := hKK.2
  have hx := B.exec
  have hb := B.bytes
  have hr := B.returns
  have hts := atoms_spec (ws := wsX9_isPoint) B.pre
  have hown : s.vm.findClass RX9 = some m.cls := findClass_of_methodNamed B.named
  have hlocks := B.notSynchronized
  have hi_X9 : ∀ w ∈ wsX90, w ∈ wsX9_isPoint := fun w h => List.mem_cons_of_mem _ (List.mem_append_right _ (h))
  have hl := lv_entry ([.ref q_t, .int a1, .int a2, .int a3, .int a4, .int a5] : List Value) (n := 6) (Nat.le_of_ble_eq_true rfl)
  rw [lg_entry_eq]
  generalize (lg_sl ([.ref q_t, .int a1, .int a2, .int a3, .int a4, .int a5] : List Value) ++ List.replicate (6 - (lg_sl ([.ref q_t, .int a1, .int a2, .int a3, .int a4, .int a5] : List Value)).length) Slot.unset).toArray = ls at hl ⊢
  have hl : lv_has ls 6 [(0, .ref q_t), (1, .int a1), (2, .int a2), (3, .int a3), (4, .int a4), (5, .int a5)] := hl
  unfold wp_X9_isPoint at h
  have j74 : ∀ (ls : Array Slot), lv_has ls 6 [] → wp_X9_isPoint_b74 Q → W p l e (headSpec wsX9_isPoint ({ frames := 1, cells := 0, slots := 0, locals := 25 } : Room)).room s m (([.ref q_t, .int a1, .int a2, .int a3, .int a4, .int a5] : List Value)).toArray below meth c s.heap [] 0 0 (MQ below (vp_Si Q) (([.ref q_t, .int a1, .int a2, .int a3, .int a4, .int a5] : List Value)).toArray s 0 0 (fun _ => False)) (F0 m 74 ls []) := by
    intro ls hl h
    unfold wp_X9_isPoint_b74 at h
    refine lv_iconst (v := (0 : Int32)) hx hb dX9_isPoint_74 (by decide) ?_
    exact W.zret (v := (0 : Int32)) hx hb hr rfl (fun t ht hW => ⟨(0 : Int32), rfl, h, ht⟩) (fun _ hq => by cases hq) dX9_isPoint_75
  refine lv_iload_n hx hb dX9_isPoint_0 rfl (lv_at hl 2 rfl) ?_
  refine lv_i2l (v := (a2.toInt64)) hx hb dX9_isPoint_1 rfl ?_
  refine lv_lconst (v := (0 : Int64)) hx hb dX9_isPoint_2 (by decide) ?_
  refine lv_ldc2 (v := (63 : Int64)) hx hb hown (hts (.constantLong RX9 107 (63)) (List.mem_of_getElem? (i := 1) rfl)) dX9_isPoint_3 ?_
  refine py_ci (py_rSp (As := [.long (a2.toInt64), .long (0 : Int64), .long (63 : Int64)]) ⟨hx, hb, hml, hown, hts⟩ hKK hP [] rfl (c_X9_in l D cy (a2.toInt64) (0 : Int64) (63 : Int64) _ h) (va_cwS 3 hts gX9_isPoint_X9_in rfl rfl rfl cd_X9_in ⟨Nat.le_of_ble_eq_true rfl, Nat.le_of_ble_eq_true rfl⟩) rfl hl.1 rfl (Nat.le_of_ble_eq_true rfl) ⟨Nat.zero_le _, Nat.zero_le _⟩ dX9_isPoint_6) (fun r_1 h => ?_)
  refine lv_if_eq (tgt := 74) hx hb dX9_isPoint_9 (by decide) (fun c_ => ?_) (fun c_ => ?_)
  · have h := h.1 c_
    exact j74 _ (lv_sub hl [] rfl) h
  · have h := h.2 c_
    refine lv_iload_n hx hb dX9_isPoint_12 rfl (lv_at hl 3 rfl) ?_
    refine lv_i2l (v := (a3.toInt64)) hx hb dX9_isPoint_13 rfl ?_
    refine lv_lconst (v := (0 : Int64)) hx hb dX9_isPoint_14 (by decide) ?_
    refine lv_ldc2 (v := (63 : Int64)) hx hb hown (hts (.constantLong RX9 107 (63)) (List.mem_of_getElem? (i := 1) rfl)) dX9_isPoint_15 ?_
    refine py_ci (py_rSp (As := [.long (a3.toInt64), .long (0 : Int64), .long (63 : Int64)]) ⟨hx, hb, hml, hown, hts⟩ hKK hP [] rfl (c_X9_in l D cy (a3.toInt64) (0 : Int64) (63 : Int64) _ h) (va_cwS 3 hts gX9_isPoint_X9_in rfl rfl rfl cd_X9_in ⟨Nat.le_of_ble_eq_true rfl, Nat.le_of_ble_eq_true rfl⟩) rfl hl.1 rfl (Nat.le_of_ble_eq_true rfl) ⟨Nat.zero_le _, Nat.zero_le _⟩ dX9_isPoint_18) (fun r_2 h => ?_)
    refine lv_if_eq (tgt := 74) hx hb dX9_isPoint_21 (by decide) (fun c_ => ?_) (fun c_ => ?_)
    · have h := h.1 c_
      exact j74 _ (lv_sub hl [] rfl) h
    · have h := h.2 c_
      refine lv_iload hx hb dX9_isPoint_24 (lv_at hl 4 rfl) ?_
      refine lv_i2l (v := (a4.toInt64)) hx hb dX9_isPoint_26 rfl ?_
      refine lv_ldc2 (v := (-3000 : Int64)) hx hb hown (hts (.constantLong RX9 109 (-3000)) (List.mem_of_getElem? (i := 2) rfl)) dX9_isPoint_27 ?_
      refine lv_ldc2 (v := (3000 : Int64)) hx hb hown (hts (.constantLong RX9 111 (3000)) (List.mem_of_getElem? (i := 3) rfl)) dX9_isPoint_30 ?_
      refine py_ci (py_rSp (As := [.long (a4.toInt64), .long (-3000 : Int64), .long (3000 : Int64)]) ⟨hx, hb, hml, hown, hts⟩ hKK hP [] rfl (c_X9_in l D cy (a4.toInt64) (-3000 : Int64) (3000 : Int64) _ h) (va_cwS 3 hts gX9_isPoint_X9_in rfl rfl rfl cd_X9_in ⟨Nat.le_of_ble_eq_true rfl, Nat.le_of_ble_eq_true rfl⟩) rfl hl.1 rfl (Nat.le_of_ble_eq_true rfl) ⟨Nat.zero_le _, Nat.zero_le _⟩ dX9_isPoint_33) (fun r_3 h => ?_)
      refine lv_if_eq (tgt := 74) hx hb dX9_isPoint_36 (by decide) (fun c_ => ?_) (fun c_ => ?_)
      · have h := h.1 c_
        exact j74 _ (lv_sub hl [] rfl) h
      · have h := h.2 c_
        refine lv_iload hx hb dX9_isPoint_39 (lv_at hl 5 rfl) ?_
        refine lv_i2l (v := (a5.toInt64)) hx hb dX9_isPoint_41 rfl ?_
        refine lv_lconst (v := (0 : Int64)) hx hb dX9_isPoint_42 (by decide) ?_
        refine lv_ldc2 (v := (3 : Int64)) hx hb hown (hts (.constantLong RX9 87 (3)) (List.mem_of_getElem? (i := 4) rfl)) dX9_isPoint_43 ?_
        refine py_ci (py_rSp (As := [.long (a5.toInt64), .long (0 : Int64), .long (3 : Int64)]) ⟨hx, hb, hml, hown, hts⟩ hKK hP [] rfl (c_X9_in l D cy (a5.toInt64) (0 : Int64) (3 : Int64) _ h) (va_cwS 3 hts gX9_isPoint_X9_in rfl rfl rfl cd_X9_in ⟨Nat.le_of_ble_eq_true rfl, Nat.le_of_ble_eq_true rfl⟩) rfl hl.1 rfl (Nat.le_of_ble_eq_true rfl) ⟨Nat.zero_le _, Nat.zero_le _⟩ dX9_isPoint_46) (fun r_4 h => ?_)
        refine lv_if_eq (tgt := 74) hx hb dX9_isPoint_49 (by decide) (fun c_ => ?_) (fun c_ => ?_)
        · have h := h.1 c_
          exact j74 _ (lv_sub hl [] rfl) h
        · have h := h.2 c_
          refine lv_aload_n hx hb dX9_isPoint_52 rfl (lv_at hl 0 rfl) ?_
          refine va_get (D := D) (ci := 9) (C := RX9) (T := TX9) (N := 30) hx hb hts hi_X9 hown hK hP 0 rfl rfl 12 (by decide) (hts (.fieldLink RX9 46 "RayGroundModel" "lost" "[Z") (List.mem_of_getElem? (i := 5) rfl)) (fun _ h9 => h9) rfl dX9_isPoint_53 ?_
          refine lv_bipush (v := (16 : Int32)) hx hb dX9_isPoint_56 (by decide) ?_
          refine lv_iload_n hx hb dX9_isPoint_58 rfl (lv_at hl 1 rfl) ?_
          refine lv_imul hx hb dX9_isPoint_59 ?_
          refine lv_iload_n hx hb dX9_isPoint_60 rfl (lv_at hl 2 rfl) ?_
          refine lv_iload_n hx hb dX9_isPoint_61 rfl (lv_at hl 3 rfl) ?_
          refine py_ci (py_rSp (As := [.int a2, .int a3]) ⟨hx, hb, hml, hown, hts⟩ hKK hP [] rfl (c_X9_tileOf l D cy a2 a3 _ h) (va_cwS 2 hts gX9_isPoint_X9_tileOf rfl rfl rfl cd_X9_tileOf ⟨Nat.le_of_ble_eq_true rfl, Nat.le_of_ble_eq_true rfl⟩) rfl hl.1 rfl (Nat.le_of_ble_eq_true rfl) ⟨Nat.zero_le _, Nat.zero_le _⟩ dX9_isPoint_62) (fun r_5 h => ?_)
          refine lv_iadd hx hb dX9_isPoint_65 ?_
          refine py_zald hx hb hK hP 1 1 rfl rfl (k := (((16 : Int32) * a1) + r_5).toNatClampNeg) rfl h.1 dX9_isPoint_66 ?_
          have h := h.2
          refine lv_if_ne (tgt := 74) hx hb dX9_isPoint_67 (by decide) (fun c_ => ?_) (fun c_ => ?_)
          · have h := h.2 c_
            exact j74 _ (lv_sub hl [] rfl) h
          · have h := h.1 c_
            refine lv_iconst (v := (1 : Int32)) hx hb dX9_isPoint_70 (by decide) ?_
            refine lv_goto (tgt := 75) hx hb dX9_isPoint_71 (by decide) ?_
            exact W.zret (v := (1 : Int32)) hx hb hr rfl (fun t ht hW => ⟨(1 : Int32), rfl, h, ht⟩) (fun _ hq => by cases hq) dX9_isPoint_75
set_option maxHeartbeats 4000000 in
set_option maxRecDepth 100000 in
theorem c_X9_points (l : Launch) (D : va_G) (cy : Nat → ClassId) (q_t_lanes q_t_sizes q_t_items q_t_spare q_t_many q_t_px q_t_py q_t_pz q_t_strip q_t_kind q_t_byHand q_t_round q_t_lost q_t_shifts q_t_matrix q_t_right q_t_found q_t_high q_t_near q_t_cells q_t_part q_t_before q_t_tape q_t_what q_t_numbers q_t : Nat) (t_highs : Int32) (t_taped : Int32) (t_at : Int32) (t_fault : Int32) (t_steps : Int32) (t_lanes : Nat → Int32) (t_sizes : Nat → Int32) (t_items : Nat → Int32) (t_lost : Nat → Int32) (t_many : Nat → Int32) (t_px : Nat → Int32) (t_py : Nat → Int32) (t_pz : Nat → Int32) (t_strip : Nat → Int32) (t_kind : Nat → Int32) (t_byHand : Nat → Int32) (t_round : Nat → Int32) (a1 : Int32) (a2 : Int32) (a3 : Int32) (a4 : Int32) (a5 : Int32) (sz : Nat) (Q : Int32 → (Nat → Int32) → (Nat → Int32) → (Nat → Int32) → (Nat → Int32) → (Nat → Int32) → (Nat → Int32) → (Nat → Int32) → (Nat → Int32) → Prop) (h : wp_X9_points t_lanes t_sizes t_items t_lost t_many t_px t_py t_pz t_strip t_kind t_byHand t_round a1 a2 a3 a4 a5 Q) : Met l yX9_points wsX9_points ({ frames := 2, cells := 0, slots := 0, locals := 50 } : Room) (py_Pw ([.ref q_t, .int a1, .int a2, .int a3, .int a4, .int a5] : List Value) D cy [(q_t, .inr (9, [.ref q_t_lanes, .ref q_t_sizes, .ref q_t_items, .ref q_t_spare, .ref q_t_many, .ref q_t_px, .ref q_t_py, .ref q_t_pz, .ref q_t_strip, .ref q_t_kind, .ref q_t_byHand, .ref q_t_round, .ref q_t_lost, .ref q_t_shifts, .ref q_t_matrix, .ref q_t_right, .ref q_t_found, .ref q_t_high, .int t_highs, .ref q_t_near, .ref q_t_cells, .ref q_t_part, .ref q_t_before, .ref q_t_tape, .int t_taped, .int t_at, .int t_fault, .int t_steps, .ref q_t_what, .ref q_t_numbers])), (q_t_lanes, .inl (cy 0, (4, .inl t_lanes))), (q_t_sizes, .inl (cy 0, (4, .inl t_sizes))), (q_t_items, .inl (cy 0, (160, .inl t_items))), (q_t_lost, .inl (cy 1, (32, .inl t_lost))), (q_t_many, .inl (cy 0, (2, .inl t_many))), (q_t_px, .inl (cy 0, (200, .inl t_px))), (q_t_py, .inl (cy 0, (200, .inl t_py))), (q_t_pz, .inl (cy 0, (200, .inl t_pz))), (q_t_strip, .inl (cy 0, (200, .inl t_strip))), (q_t_kind, .inl (cy 0, (200, .inl t_kind))), (q_t_byHand, .inl (cy 0, (200, .inl t_byHand))), (q_t_round, .inl (cy 0, (200, .inl t_round)))] sz) (va_Qi (fun (r : Int32) (u : (Nat → Int32) × (Nat → Int32) × (Nat → Int32) × (Nat → Int32) × (Nat → Int32) × (Nat → Int32) × (Nat → Int32) × (Nat → Int32)) => Q r u.1 u.2.1 u.2.2.1 u.2.2.2.1 u.2.2.2.2.1 u.2.2.2.2.2.1 u.2.2.2.2.2.2.1 u.2.2.2.2.2.2.2) (py_B D (fun (u : (Nat → Int32) × (Nat → Int32) × (Nat → Int32) × (Nat → Int32) × (Nat → Int32) × (Nat → Int32) × (Nat → Int32) × (Nat → Int32)) => [(q_t, .inr (9, [.ref q_t_lanes, .ref q_t_sizes, .ref q_t_items, .ref q_t_spare, .ref q_t_many, .ref q_t_px, .ref q_t_py, .ref q_t_pz, .ref q_t_strip, .ref q_t_kind, .ref q_t_byHand, .ref q_t_round, .ref q_t_lost, .ref q_t_shifts, .ref q_t_matrix, .ref q_t_right, .ref q_t_found, .ref q_t_high, .int t_highs, .ref q_t_near, .ref q_t_cells, .ref q_t_part, .ref q_t_before, .ref q_t_tape, .int t_taped, .int t_at, .int t_fault, .int t_steps, .ref q_t_what, .ref q_t_numbers])), (q_t_lanes, .inl (cy 0, (4, .inl t_lanes))), (q_t_sizes, .inl (cy 0, (4, .inl t_sizes))), (q_t_items, .inl (cy 0, (160, .inl t_items))), (q_t_lost, .inl (cy 1, (32, .inl t_lost))), (q_t_many, .inl (cy 0, (2, .inl u.1))), (q_t_px, .inl (cy 0, (200, .inl u.2.1))), (q_t_py, .inl (cy 0, (200, .inl u.2.2.1))), (q_t_pz, .inl (cy 0, (200, .inl u.2.2.2.1))), (q_t_strip, .inl (cy 0, (200, .inl u.2.2.2.2.1))), (q_t_kind, .inl (cy 0, (200, .inl u.2.2.2.2.2.1))), (q_t_byHand, .inl (cy 0, (200, .inl u.2.2.2.2.2.2.1))), (q_t_round, .inl (cy 0, (200, .inl u.2.2.2.2.2.2.2)))]) (va_A [(q_t, .inr (9, [.ref q_t_lanes, .ref q_t_sizes, .ref q_t_items, .ref q_t_spare, .ref q_t_many, .ref q_t_px, .ref q_t_py, .ref q_t_pz, .ref q_t_strip, .ref q_t_kind, .ref q_t_byHand, .ref q_t_round, .ref q_t_lost, .ref q_t_shifts, .ref q_t_matrix, .ref q_t_right, .ref q_t_found, .ref q_t_high, .int t_highs, .ref q_t_near, .ref q_t_cells, .ref q_t_part, .ref q_t_before, .ref q_t_tape, .int t_taped, .int t_at, .int t_fault, .int t_steps, .ref q_t_what, .ref q_t_numbers])), (q_t_lanes, .inl (cy 0, (4, .inl t_lanes))), (q_t_sizes, .inl (cy 0, (4, .inl t_sizes))), (q_t_items, .inl (cy 0, (160, .inl t_items))), (q_t_lost, .inl (cy 1, (32, .inl t_lost))), (q_t_many, .inl (cy 0, (2, .inl t_many))), (q_t_px, .inl (cy 0, (200, .inl t_px))), (q_t_py, .inl (cy 0, (200, .inl t_py))), (q_t_pz, .inl (cy 0, (200, .inl t_pz))), (q_t_strip, .inl (cy 0, (200, .inl t_strip))), (q_t_kind, .inl (cy 0, (200, .inl t_kind))), (q_t_byHand, .inl (cy 0, (200, .inl t_byHand))), (q_t_round, .inl (cy 0, (200, .inl t_round)))] sz)) (va_A [(q_t, .inr (9, [.ref q_t_lanes, .ref q_t_sizes, .ref q_t_items, .ref q_t_spare, .ref q_t_many, .ref q_t_px, .ref q_t_py, .ref q_t_pz, .ref q_t_strip, .ref q_t_kind, .ref q_t_byHand, .ref q_t_round, .ref q_t_lost, .ref q_t_shifts, .ref q_t_matrix, .ref q_t_right, .ref q_t_found, .ref q_t_high, .int t_highs, .ref q_t_near, .ref q_t_cells, .ref q_t_part, .ref q_t_before, .ref q_t_tape, .int t_taped, .int t_at, .int t_fault, .int t_steps, .ref q_t_what, .ref q_t_numbers])), (q_t_lanes, .inl (cy 0, (4, .inl t_lanes))), (q_t_sizes, .inl (cy 0, (4, .inl t_sizes))), (q_t_items, .inl (cy 0, (160, .inl t_items))), (q_t_lost, .inl (cy 1, (32, .inl t_lost))), (q_t_many, .inl (cy 0, (2, .inl t_many))), (q_t_px, .inl (cy 0, (200, .inl t_px))), (q_t_py, .inl (cy 0, (200, .inl t_py))), (q_t_pz, .inl (cy 0, (200, .inl t_pz))), (q_t_strip, .inl (cy 0, (200, .inl t_strip))), (q_t_kind, .inl (cy 0, (200, .inl t_kind))), (q_t_byHand, .inl (cy 0, (200, .inl t_byHand))), (q_t_round, .inl (cy 0, (200, .inl t_round)))] sz)) 0 0 (va_A [(q_t, .inr (9, [.ref q_t_lanes, .ref q_t_sizes, .ref q_t_items, .ref q_t_spare, .ref q_t_many, .ref q_t_px, .ref q_t_py, .ref q_t_pz, .ref q_t_strip, .ref q_t_kind, .ref q_t_byHand, .ref q_t_round, .ref q_t_lost, .ref q_t_shifts, .ref q_t_matrix, .ref q_t_right, .ref q_t_found, .ref q_t_high, .int t_highs, .ref q_t_near, .ref q_t_cells, .ref q_t_part, .ref q_t_before, .ref q_t_tape, .int t_taped, .int t_at, .int t_fault, .int t_steps, .ref q_t_what, .ref q_t_numbers])), (q_t_lanes, .inl (cy 0, (4, .inl t_lanes))), (q_t_sizes, .inl (cy 0, (4, .inl t_sizes))), (q_t_items, .inl (cy 0, (160, .inl t_items))), (q_t_lost, .inl (cy 1, (32, .inl t_lost))), (q_t_many, .inl (cy 0, (2, .inl t_many))), (q_t_px, .inl (cy 0, (200, .inl t_px))), (q_t_py, .inl (cy 0, (200, .inl t_py))), (q_t_pz, .inl (cy 0, (200, .inl t_pz))), (q_t_strip, .inl (cy 0, (200, .inl t_strip))), (q_t_kind, .inl (cy 0, (200, .inl t_kind))), (q_t_byHand, .inl (cy 0, (200, .inl t_byHand))), (q_t_round, .inl (cy 0, (200, .inl t_round)))] sz) := by
  refine Met.ofW (cc := cX9_points) (maxL := 10) (ret := (some .int)) (by decide) rfl ?_
  intro p e s m args below meth c s₁ B hml hv
  obtain ⟨rfl, hsz, hP, hKK, hD0⟩ := hv
  have hK := hKK.1
  have hN := hKK.2
  have hx := B.exec
  have hb := B.bytes
  have hr := B.returns
  have hts := atoms_spec (ws := wsX9_points) B.pre
  have hown : s.vm.findClass RX9 = some m.cls := findClass_of_methodNamed B.named
  have hlocks := B.notSynchronized
  have hi_X9 : ∀ w ∈ wsX90, w ∈ wsX9_points := fun w h => List.mem_cons_of_mem _ (List.mem_append_right _ (h))
  subst hsz
  have hD := hD0.self (sz := s.heap.size)
  generalize hAe : va_A [(q_t, .inr (9, [.ref q_t_lanes, .ref q_t_sizes, .ref q_t_items, .ref q_t_spare, .ref q_t_many, .ref q_t_px, .ref q_t_py, .ref q_t_pz, .ref q_t_strip, .ref q_t_kind, .ref q_t_byHand, .ref q_t_round, .ref q_t_lost, .ref q_t_shifts, .ref q_t_matrix, .ref q_t_right, .ref q_t_found, .ref q_t_high, .int t_highs, .ref q_t_near, .ref q_t_cells, .ref q_t_part, .ref q_t_before, .ref q_t_tape, .int t_taped, .int t_at, .int t_fault, .int t_steps, .ref q_t_what, .ref q_t_numbers])), (q_t_lanes, .inl (cy 0, (4, .inl t_lanes))), (q_t_sizes, .inl (cy 0, (4, .inl t_sizes))), (q_t_items, .inl (cy 0, (160, .inl t_items))), (q_t_lost, .inl (cy 1, (32, .inl t_lost))), (q_t_many, .inl (cy 0, (2, .inl t_many))), (q_t_px, .inl (cy 0, (200, .inl t_px))), (q_t_py, .inl (cy 0, (200, .inl t_py))), (q_t_pz, .inl (cy 0, (200, .inl t_pz))), (q_t_strip, .inl (cy 0, (200, .inl t_strip))), (q_t_kind, .inl (cy 0, (200, .inl t_kind))), (q_t_byHand, .inl (cy 0, (200, .inl t_byHand))), (q_t_round, .inl (cy 0, (200, .inl t_round)))] s.heap.size = A at hD ⊢
  have hA : ∀ q : Nat, s.heap.size ≤ q → A q := fun q h => by rw [← hAe]; exact Or.inr h
  have hS : va_S A s.heap s.heap [] := va_S.rf
  have hl := lv_entry ([.ref q_t, .int a1, .int a2, .int a3, .int a4, .int a5] : List Value) (n := 10) (Nat.le_of_ble_eq_true rfl)
  rw [lg_entry_eq]
  generalize (lg_sl ([.ref q_t, .int a1, .int a2, .int a3, .int a4, .int a5] : List Value) ++ List.replicate (10 - (lg_sl ([.ref q_t, .int a1, .int a2, .int a3, .int a4, .int a5] : List Value)).length) Slot.unset).toArray = ls at hl ⊢
  have hl : lv_has ls 10 [(0, .ref q_t), (1, .int a1), (2, .int a2), (3, .int a3), (4, .int a4), (5, .int a5)] := hl
  unfold wp_X9_points at h
  refine lv_iload_n hx hb dX9_points_0 rfl (lv_at hl 1 rfl) ?_
  refine py_ci (py_rSp (As := [.int a1]) ⟨hx, hb, hml, hown, hts⟩ hKK hP [] rfl (c_X9_isYear l D cy a1 _ h) (va_cwS 1 hts gX9_points_X9_isYear rfl rfl rfl cd_X9_isYear ⟨Nat.le_of_ble_eq_true rfl, Nat.le_of_ble_eq_true rfl⟩) rfl hl.1 rfl (Nat.le_of_ble_eq_true rfl) ⟨Nat.zero_le _, Nat.zero_le _⟩ dX9_points_1) (fun r_1 h => ?_)
  refine lv_if_eq (tgt := 28) hx hb dX9_points_4 (by decide) (fun c_ => ?_) (fun c_ => ?_)
  · have h := h.1 c_
    refine lv_iconst (v := (-1 : Int32)) hx hb dX9_points_28 (by decide) ?_
    exact W.iret (v := (-1 : Int32)) hx hb hr (fun t ht hW => ⟨⟨(-1 : Int32), (t_many, t_px, t_py, t_pz, t_strip, t_kind, t_byHand, t_round), rfl, h, by rw [ht]; exact hP, hD⟩, hS.F ht⟩) hS.2.2 dX9_points_29
  · have h := h.2 c_
    refine lv_iload_n hx hb dX9_points_7 rfl (lv_at hl 2 rfl) ?_
    refine lv_iload_n hx hb dX9_points_8 rfl (lv_at hl 3 rfl) ?_
    refine py_ci (py_rSp (As := [.int a2, .int a3]) ⟨hx, hb, hml, hown, hts⟩ hKK hP [] rfl (c_X9_isSheet l D cy a2 a3 _ h) (va_cwS 2 hts gX9_points_X9_isSheet rfl rfl rfl cd_X9_isSheet ⟨Nat.le_of_ble_eq_true rfl, Nat.le_of_ble_eq_true rfl⟩) rfl hl.1 rfl (Nat.le_of_ble_eq_true rfl) ⟨Nat.zero_le _, Nat.zero_le _⟩ dX9_points_9) (fun r_2 h => ?_)
    refine lv_if_eq (tgt := 28) hx hb dX9_points_12 (by decide) (fun c_ => ?_) (fun c_ => ?_)
    · have h := h.1 c_
      refine lv_iconst (v := (-1 : Int32)) hx hb dX9_points_28 (by decide) ?_
      exact W.iret (v := (-1 : Int32)) hx hb hr (fun t ht hW => ⟨⟨(-1 : Int32), (t_many, t_px, t_py, t_pz, t_strip, t_kind, t_byHand, t_round), rfl, h, by rw [ht]; exact hP, hD⟩, hS.F ht⟩) hS.2.2 dX9_points_29
    · have h := h.2 c_
      refine lv_iload hx hb dX9_points_15 (lv_at hl 5 rfl) ?_
      refine lv_i2l (v := (a5.toInt64)) hx hb dX9_points_17 rfl ?_
      refine lv_lconst (v := (1 : Int64)) hx hb dX9_points_18 (by decide) ?_
      refine lv_ldc2 (v := (10 : Int64)) hx hb hown (hts (.constantLong RX9 120 (10)) (List.mem_of_getElem? (i := 1) rfl)) dX9_points_19 ?_
      refine py_ci (py_rSp (As := [.long (a5.toInt64), .long (1 : Int64), .long (10 : Int64)]) ⟨hx, hb, hml, hown, hts⟩ hKK hP [] rfl (c_X9_in l D cy (a5.toInt64) (1 : Int64) (10 : Int64) _ h) (va_cwS 3 hts gX9_points_X9_in rfl rfl rfl cd_X9_in ⟨Nat.le_of_ble_eq_true rfl, Nat.le_of_ble_eq_true rfl⟩) rfl hl.1 rfl (Nat.le_of_ble_eq_true rfl) ⟨Nat.zero_le _, Nat.zero_le _⟩ dX9_points_22) (fun r_3 h => ?_)
      refine lv_if_ne (tgt := 30) hx hb dX9_points_25 (by decide) (fun c_ => ?_) (fun c_ => ?_)
      · have h := h.2 c_
        refine lv_aload_n hx hb dX9_points_30 rfl (lv_at hl 0 rfl) ?_
        refine lv_iload_n hx hb dX9_points_31 rfl (lv_at hl 2 rfl) ?_
        refine lv_iload_n hx hb dX9_points_32 rfl (lv_at hl 3 rfl) ?_
        refine py_ci (py_rVp (As := [.int a2, .int a3]) ⟨hx, hb, hml, hown, hts⟩ hKK hP [0, 1] rfl 0 9 rfl rfl (c_X9_against l D cy q_t_lanes q_t_sizes q_t_items q_t_spare q_t_many q_t_px q_t_py q_t_pz q_t_strip q_t_kind q_t_byHand q_t_round q_t_lost q_t_shifts q_t_matrix q_t_right q_t_found q_t_high q_t_near q_t_cells q_t_part q_t_before q_t_tape q_t_what q_t_numbers q_t t_highs t_taped t_at t_fault t_steps t_lanes a2 a3 _ h) (cwV 2 hts gX9_points_X9_against rfl rfl rfl cdv_X9_against ⟨Nat.le_of_ble_eq_true rfl, Nat.le_of_ble_eq_true rfl⟩) rfl hl.1 rfl (Nat.le_of_ble_eq_true rfl) ⟨Nat.zero_le _, Nat.zero_le _⟩ dX9_points_33) (fun r_4 h => ?_)
        refine lv_istore (lv' := [(6, .int r_4), (0, .ref q_t), (1, .int a1), (2, .int a2), (3, .int a3), (4, .int a4), (5, .int a5)]) hx hb dX9_points_36 hl (by decide) rfl (fun ls hl => ?_)
        refine lv_iload hx hb dX9_points_38 (lv_at hl 0 rfl) ?_
        refine lv_if_ge (tgt := 46) hx hb dX9_points_40 (by decide) (fun c_ => ?_) (fun c_ => ?_)
        · have h := h.1 c_
          refine lv_iload hx hb dX9_points_46 (lv_at hl 5 rfl) ?_
          refine lv_iconst (v := (4 : Int32)) hx hb dX9_points_48 (by decide) ?_
          refine lv_iload hx hb dX9_points_49 (lv_at hl 6 rfl) ?_
          refine lv_imul hx hb dX9_points_51 ?_
          refine lv_aload_n hx hb dX9_points_52 rfl (lv_at hl 1 rfl) ?_
          refine va_get (D := D) (ci := 9) (C := RX9) (T := TX9) (N := 30) hx hb hts hi_X9 hown hK hP 0 rfl rfl 1 (by decide) (hts (.fieldLink RX9 13 "RayGroundModel" "sizes" "[I") (List.mem_of_getElem? (i := 2) rfl)) (fun _ h9 => h9) rfl dX9_points_53 ?_
          refine lv_iload_n hx hb dX9_points_56 rfl (lv_at hl 3 rfl) ?_
          refine py_iald hx hb hK hP 2 0 rfl rfl (k := a2.toNatClampNeg) rfl h.1 dX9_points_57 ?_
          have h := h.2
          refine py_ci (py_rSp (As := [.int a4, .int ((4 : Int32) * a5), .int (t_sizes a2.toNatClampNeg)]) ⟨hx, hb, hml, hown, hts⟩ hKK hP [] rfl (c_X9_isSpan l D cy a4 ((4 : Int32) * a5) (t_sizes a2.toNatClampNeg) _ h) (va_cwS 3 hts gX9_points_X9_isSpan rfl rfl rfl cd_X9_isSpan ⟨Nat.le_of_ble_eq_true rfl, Nat.le_of_ble_eq_true rfl⟩) rfl hl.1 rfl (Nat.le_of_ble_eq_true rfl) ⟨Nat.zero_le _, Nat.zero_le _⟩ dX9_points_58) (fun r_5 h => ?_)
          refine lv_if_ne (tgt := 67) hx hb dX9_points_61 (by decide) (fun c_ => ?_) (fun c_ => ?_)
          · have h := h.2 c_
            have j157 : ∀ (t_many : Nat → Int32) (t_px : Nat → Int32) (t_py : Nat → Int32) (t_pz : Nat → Int32) (t_strip : Nat → Int32) (t_kind : Nat → Int32) (t_byHand : Nat → Int32) (t_round : Nat → Int32) (v1 : Int32) (v5 : Int32) (v7 : Int32) (H : Heap) (locs : List Loc), va_P D vwCl [(q_t, .inr (9, [.ref q_t_lanes, .ref q_t_sizes, .ref q_t_items, .ref q_t_spare, .ref q_t_many, .ref q_t_px, .ref q_t_py, .ref q_t_pz, .ref q_t_strip, .ref q_t_kind, .ref q_t_byHand, .ref q_t_round, .ref q_t_lost, .ref q_t_shifts, .ref q_t_matrix, .ref q_t_right, .ref q_t_found, .ref q_t_high, .int t_highs, .ref q_t_near, .ref q_t_cells, .ref q_t_part, .ref q_t_before, .ref q_t_tape, .int t_taped, .int t_at, .int t_fault, .int t_steps, .ref q_t_what, .ref q_t_numbers])), (q_t_lanes, .inl (cy 0, (4, .inl t_lanes))), (q_t_sizes, .inl (cy 0, (4, .inl t_sizes))), (q_t_items, .inl (cy 0, (160, .inl t_items))), (q_t_lost, .inl (cy 1, (32, .inl t_lost))), (q_t_many, .inl (cy 0, (2, .inl t_many))), (q_t_px, .inl (cy 0, (200, .inl t_px))), (q_t_py, .inl (cy 0, (200, .inl t_py))), (q_t_pz, .inl (cy 0, (200, .inl t_pz))), (q_t_strip, .inl (cy 0, (200, .inl t_strip))), (q_t_kind, .inl (cy 0, (200, .inl t_kind))), (q_t_byHand, .inl (cy 0, (200, .inl t_byHand))), (q_t_round, .inl (cy 0, (200, .inl t_round)))] H → va_D A [(q_t, .inr (9, [.ref q_t_lanes, .ref q_t_sizes, .ref q_t_items, .ref q_t_spare, .ref q_t_many, .ref q_t_px, .ref q_t_py, .ref q_t_pz, .ref q_t_strip, .ref q_t_kind, .ref q_t_byHand, .ref q_t_round, .ref q_t_lost, .ref q_t_shifts, .ref q_t_matrix, .ref q_t_right, .ref q_t_found, .ref q_t_high, .int t_highs, .ref q_t_near, .ref q_t_cells, .ref q_t_part, .ref q_t_before, .ref q_t_tape, .int t_taped, .int t_at, .int t_fault, .int t_steps, .ref q_t_what, .ref q_t_numbers])), (q_t_lanes, .inl (cy 0, (4, .inl t_lanes))), (q_t_sizes, .inl (cy 0, (4, .inl t_sizes))), (q_t_items, .inl (cy 0, (160, .inl t_items))), (q_t_lost, .inl (cy 1, (32, .inl t_lost))), (q_t_many, .inl (cy 0, (2, .inl t_many))), (q_t_px, .inl (cy 0, (200, .inl t_px))), (q_t_py, .inl (cy 0, (200, .inl t_py))), (q_t_pz, .inl (cy 0, (200, .inl t_pz))), (q_t_strip, .inl (cy 0, (200, .inl t_strip))), (q_t_kind, .inl (cy 0, (200, .inl t_kind))), (q_t_byHand, .inl (cy 0, (200, .inl t_byHand))), (q_t_round, .inl (cy 0, (200, .inl t_round)))] → va_S A s.heap H locs → ∀ (ls : Array Slot), lv_has ls 10 [(0, .ref q_t), (1, .int v1), (5, .int v5), (7, .int v7)] → wp_X9_points_b157 Q t_items t_many t_px t_py t_pz t_strip t_kind t_byHand t_round v1 v5 v7 → W p l e (headSpec wsX9_points ({ frames := 2, cells := 0, slots := 0, locals := 50 } : Room)).room s m (([.ref q_t, .int a1, .int a2, .int a3, .int a4, .int a5] : List Value)).toArray below meth c H locs 0 0 (MQ below (va_Qi (fun (r : Int32) (u : (Nat → Int32) × (Nat → Int32) × (Nat → Int32) × (Nat → Int32) × (Nat → Int32) × (Nat → Int32) × (Nat → Int32) × (Nat → Int32)) => Q r u.1 u.2.1 u.2.2.1 u.2.2.2.1 u.2.2.2.2.1 u.2.2.2.2.2.1 u.2.2.2.2.2.2.1 u.2.2.2.2.2.2.2) (py_B D (fun (u : (Nat → Int32) × (Nat → Int32) × (Nat → Int32) × (Nat → Int32) × (Nat → Int32) × (Nat → Int32) × (Nat → Int32) × (Nat → Int32)) => [(q_t, .inr (9, [.ref q_t_lanes, .ref q_t_sizes, .ref q_t_items, .ref q_t_spare, .ref q_t_many, .ref q_t_px, .ref q_t_py, .ref q_t_pz, .ref q_t_strip, .ref q_t_kind, .ref q_t_byHand, .ref q_t_round, .ref q_t_lost, .ref q_t_shifts, .ref q_t_matrix, .ref q_t_right, .ref q_t_found, .ref q_t_high, .int t_highs, .ref q_t_near, .ref q_t_cells, .ref q_t_part, .ref q_t_before, .ref q_t_tape, .int t_taped, .int t_at, .int t_fault, .int t_steps, .ref q_t_what, .ref q_t_numbers])), (q_t_lanes, .inl (cy 0, (4, .inl t_lanes))), (q_t_sizes, .inl (cy 0, (4, .inl t_sizes))), (q_t_items, .inl (cy 0, (160, .inl t_items))), (q_t_lost, .inl (cy 1, (32, .inl t_lost))), (q_t_many, .inl (cy 0, (2, .inl u.1))), (q_t_px, .inl (cy 0, (200, .inl u.2.1))), (q_t_py, .inl (cy 0, (200, .inl u.2.2.1))), (q_t_pz, .inl (cy 0, (200, .inl u.2.2.2.1))), (q_t_strip, .inl (cy 0, (200, .inl u.2.2.2.2.1))), (q_t_kind, .inl (cy 0, (200, .inl u.2.2.2.2.2.1))), (q_t_byHand, .inl (cy 0, (200, .inl u.2.2.2.2.2.2.1))), (q_t_round, .inl (cy 0, (200, .inl u.2.2.2.2.2.2.2)))]) A) A) (([.ref q_t, .int a1, .int a2, .int a3, .int a4, .int a5] : List Value)).toArray s 0 0 A) (F0 m 157 ls []) := by
              intro t_many t_px t_py t_pz t_strip t_kind t_byHand t_round v1 v5 v7 H locs hP hD hS ls hl h
              unfold wp_X9_points_b157 at h
              refine lv_aload_n hx hb dX9_points_157 rfl (lv_at hl 0 rfl) ?_
              refine va_get (D := D) (ci := 9) (C := RX9) (T := TX9) (N := 30) hx hb hts hi_X9 hown hK hP 0 rfl rfl 4 (by decide) (hts (.fieldLink RX9 22 "RayGroundModel" "many" "[I") (List.mem_of_getElem? (i := 4) rfl)) (fun _ h9 => h9) rfl dX9_points_158 ?_
              refine lv_iload_n hx hb dX9_points_161 rfl (lv_at hl 1 rfl) ?_
              refine py_iald hx hb hK hP 5 0 rfl rfl (k := v1.toNatClampNeg) rfl h.1 dX9_points_162 ?_
              have h := h.2
              refine lv_iload hx hb dX9_points_163 (lv_at hl 2 rfl) ?_
              refine lv_iadd hx hb dX9_points_165 ?_
              refine lv_bipush (v := (100 : Int32)) hx hb dX9_points_166 (by decide) ?_
              refine lv_icmp_le (tgt := 174) hx hb dX9_points_168 (by decide) (fun c_ => ?_) (fun c_ => ?_)
              · have h := h.1 c_
                have j319 : ∀ (t_many : Nat → Int32) (t_px : Nat → Int32) (t_py : Nat → Int32) (t_pz : Nat → Int32) (t_strip : Nat → Int32) (t_kind : Nat → Int32) (t_byHand : Nat → Int32) (t_round : Nat → Int32) (v1 : Int32) (H : Heap) (locs : List Loc), va_P D vwCl [(q_t, .inr (9, [.ref q_t_lanes, .ref q_t_sizes, .ref q_t_items, .ref q_t_spare, .ref q_t_many, .ref q_t_px, .ref q_t_py, .ref q_t_pz, .ref q_t_strip, .ref q_t_kind, .ref q_t_byHand, .ref q_t_round, .ref q_t_lost, .ref q_t_shifts, .ref q_t_matrix, .ref q_t_right, .ref q_t_found, .ref q_t_high, .int t_highs, .ref q_t_near, .ref q_t_cells, .ref q_t_part, .ref q_t_before, .ref q_t_tape, .int t_taped, .int t_at, .int t_fault, .int t_steps, .ref q_t_what, .ref q_t_numbers])), (q_t_lanes, .inl (cy 0, (4, .inl t_lanes))), (q_t_sizes, .inl (cy 0, (4, .inl t_sizes))), (q_t_items, .inl (cy 0, (160, .inl t_items))), (q_t_lost, .inl (cy 1, (32, .inl t_lost))), (q_t_many, .inl (cy 0, (2, .inl t_many))), (q_t_px, .inl (cy 0, (200, .inl t_px))), (q_t_py, .inl (cy 0, (200, .inl t_py))), (q_t_pz, .inl (cy 0, (200, .inl t_pz))), (q_t_strip, .inl (cy 0, (200, .inl t_strip))), (q_t_kind, .inl (cy 0, (200, .inl t_kind))), (q_t_byHand, .inl (cy 0, (200, .inl t_byHand))), (q_t_round, .inl (cy 0, (200, .inl t_round)))] H → va_D A [(q_t, .inr (9, [.ref q_t_lanes, .ref q_t_sizes, .ref q_t_items, .ref q_t_spare, .ref q_t_many, .ref q_t_px, .ref q_t_py, .ref q_t_pz, .ref q_t_strip, .ref q_t_kind, .ref q_t_byHand, .ref q_t_round, .ref q_t_lost, .ref q_t_shifts, .ref q_t_matrix, .ref q_t_right, .ref q_t_found, .ref q_t_high, .int t_highs, .ref q_t_near, .ref q_t_cells, .ref q_t_part, .ref q_t_before, .ref q_t_tape, .int t_taped, .int t_at, .int t_fault, .int t_steps, .ref q_t_what, .ref q_t_numbers])), (q_t_lanes, .inl (cy 0, (4, .inl t_lanes))), (q_t_sizes, .inl (cy 0, (4, .inl t_sizes))), (q_t_items, .inl (cy 0, (160, .inl t_items))), (q_t_lost, .inl (cy 1, (32, .inl t_lost))), (q_t_many, .inl (cy 0, (2, .inl t_many))), (q_t_px, .inl (cy 0, (200, .inl t_px))), (q_t_py, .inl (cy 0, (200, .inl t_py))), (q_t_pz, .inl (cy 0, (200, .inl t_pz))), (q_t_strip, .inl (cy 0, (200, .inl t_strip))), (q_t_kind, .inl (cy 0, (200, .inl t_kind))), (q_t_byHand, .inl (cy 0, (200, .inl t_byHand))), (q_t_round, .inl (cy 0, (200, .inl t_round)))] → va_S A s.heap H locs → ∀ (ls : Array Slot), lv_has ls 10 [(0, .ref q_t), (1, .int v1)] → wp_X9_points_b319 Q t_many t_px t_py t_pz t_strip t_kind t_byHand t_round v1 → W p l e (headSpec wsX9_points ({ frames := 2, cells := 0, slots := 0, locals := 50 } : Room)).room s m (([.ref q_t, .int a1, .int a2, .int a3, .int a4, .int a5] : List Value)).toArray below meth c H locs 0 0 (MQ below (va_Qi (fun (r : Int32) (u : (Nat → Int32) × (Nat → Int32) × (Nat → Int32) × (Nat → Int32) × (Nat → Int32) × (Nat → Int32) × (Nat → Int32) × (Nat → Int32)) => Q r u.1 u.2.1 u.2.2.1 u.2.2.2.1 u.2.2.2.2.1 u.2.2.2.2.2.1 u.2.2.2.2.2.2.1 u.2.2.2.2.2.2.2) (py_B D (fun (u : (Nat → Int32) × (Nat → Int32) × (Nat → Int32) × (Nat → Int32) × (Nat → Int32) × (Nat → Int32) × (Nat → Int32) × (Nat → Int32)) => [(q_t, .inr (9, [.ref q_t_lanes, .ref q_t_sizes, .ref q_t_items, .ref q_t_spare, .ref q_t_many, .ref q_t_px, .ref q_t_py, .ref q_t_pz, .ref q_t_strip, .ref q_t_kind, .ref q_t_byHand, .ref q_t_round, .ref q_t_lost, .ref q_t_shifts, .ref q_t_matrix, .ref q_t_right, .ref q_t_found, .ref q_t_high, .int t_highs, .ref q_t_near, .ref q_t_cells, .ref q_t_part, .ref q_t_before, .ref q_t_tape, .int t_taped, .int t_at, .int t_fault, .int t_steps, .ref q_t_what, .ref q_t_numbers])), (q_t_lanes, .inl (cy 0, (4, .inl t_lanes))), (q_t_sizes, .inl (cy 0, (4, .inl t_sizes))), (q_t_items, .inl (cy 0, (160, .inl t_items))), (q_t_lost, .inl (cy 1, (32, .inl t_lost))), (q_t_many, .inl (cy 0, (2, .inl u.1))), (q_t_px, .inl (cy 0, (200, .inl u.2.1))), (q_t_py, .inl (cy 0, (200, .inl u.2.2.1))), (q_t_pz, .inl (cy 0, (200, .inl u.2.2.2.1))), (q_t_strip, .inl (cy 0, (200, .inl u.2.2.2.2.1))), (q_t_kind, .inl (cy 0, (200, .inl u.2.2.2.2.2.1))), (q_t_byHand, .inl (cy 0, (200, .inl u.2.2.2.2.2.2.1))), (q_t_round, .inl (cy 0, (200, .inl u.2.2.2.2.2.2.2)))]) A) A) (([.ref q_t, .int a1, .int a2, .int a3, .int a4, .int a5] : List Value)).toArray s 0 0 A) (F0 m 319 ls []) := by
                  intro t_many t_px t_py t_pz t_strip t_kind t_byHand t_round v1 H locs hP hD hS ls hl h
                  unfold wp_X9_points_b319 at h
                  refine lv_aload_n hx hb dX9_points_319 rfl (lv_at hl 0 rfl) ?_
                  refine va_get (D := D) (ci := 9) (C := RX9) (T := TX9) (N := 30) hx hb hts hi_X9 hown hK hP 0 rfl rfl 4 (by decide) (hts (.fieldLink RX9 22 "RayGroundModel" "many" "[I") (List.mem_of_getElem? (i := 4) rfl)) (fun _ h9 => h9) rfl dX9_points_320 ?_
                  refine lv_iload_n hx hb dX9_points_323 rfl (lv_at hl 1 rfl) ?_
                  refine py_iald hx hb hK hP 5 0 rfl rfl (k := v1.toNatClampNeg) rfl h.1 dX9_points_324 ?_
                  have h := h.2
                  exact W.iret (v := (t_many v1.toNatClampNeg)) hx hb hr (fun t ht hW => ⟨⟨(t_many v1.toNatClampNeg), (t_many, t_px, t_py, t_pz, t_strip, t_kind, t_byHand, t_round), rfl, h, by rw [ht]; exact hP, hD⟩, hS.F ht⟩) hS.2.2 dX9_points_325
                have lp177 : ∀ (v1 : Int32) (v5 : Int32) (v7 : Int32) (n177 : Nat) (t_many : Nat → Int32) (t_px : Nat → Int32) (t_py : Nat → Int32) (t_pz : Nat → Int32) (t_strip : Nat → Int32) (t_kind : Nat → Int32) (t_byHand : Nat → Int32) (t_round : Nat → Int32) (v8 : Int32) (H : Heap) (locs : List Loc), va_P D vwCl [(q_t, .inr (9, [.ref q_t_lanes, .ref q_t_sizes, .ref q_t_items, .ref q_t_spare, .ref q_t_many, .ref q_t_px, .ref q_t_py, .ref q_t_pz, .ref q_t_strip, .ref q_t_kind, .ref q_t_byHand, .ref q_t_round, .ref q_t_lost, .ref q_t_shifts, .ref q_t_matrix, .ref q_t_right, .ref q_t_found, .ref q_t_high, .int t_highs, .ref q_t_near, .ref q_t_cells, .ref q_t_part, .ref q_t_before, .ref q_t_tape, .int t_taped, .int t_at, .int t_fault, .int t_steps, .ref q_t_what, .ref q_t_numbers])), (q_t_lanes, .inl (cy 0, (4, .inl t_lanes))), (q_t_sizes, .inl (cy 0, (4, .inl t_sizes))), (q_t_items, .inl (cy 0, (160, .inl t_items))), (q_t_lost, .inl (cy 1, (32, .inl t_lost))), (q_t_many, .inl (cy 0, (2, .inl t_many))), (q_t_px, .inl (cy 0, (200, .inl t_px))), (q_t_py, .inl (cy 0, (200, .inl t_py))), (q_t_pz, .inl (cy 0, (200, .inl t_pz))), (q_t_strip, .inl (cy 0, (200, .inl t_strip))), (q_t_kind, .inl (cy 0, (200, .inl t_kind))), (q_t_byHand, .inl (cy 0, (200, .inl t_byHand))), (q_t_round, .inl (cy 0, (200, .inl t_round)))] H → va_D A [(q_t, .inr (9, [.ref q_t_lanes, .ref q_t_sizes, .ref q_t_items, .ref q_t_spare, .ref q_t_many, .ref q_t_px, .ref q_t_py, .ref q_t_pz, .ref q_t_strip, .ref q_t_kind, .ref q_t_byHand, .ref q_t_round, .ref q_t_lost, .ref q_t_shifts, .ref q_t_matrix, .ref q_t_right, .ref q_t_found, .ref q_t_high, .int t_highs, .ref q_t_near, .ref q_t_cells, .ref q_t_part, .ref q_t_before, .ref q_t_tape, .int t_taped, .int t_at, .int t_fault, .int t_steps, .ref q_t_what, .ref q_t_numbers])), (q_t_lanes, .inl (cy 0, (4, .inl t_lanes))), (q_t_sizes, .inl (cy 0, (4, .inl t_sizes))), (q_t_items, .inl (cy 0, (160, .inl t_items))), (q_t_lost, .inl (cy 1, (32, .inl t_lost))), (q_t_many, .inl (cy 0, (2, .inl t_many))), (q_t_px, .inl (cy 0, (200, .inl t_px))), (q_t_py, .inl (cy 0, (200, .inl t_py))), (q_t_pz, .inl (cy 0, (200, .inl t_pz))), (q_t_strip, .inl (cy 0, (200, .inl t_strip))), (q_t_kind, .inl (cy 0, (200, .inl t_kind))), (q_t_byHand, .inl (cy 0, (200, .inl t_byHand))), (q_t_round, .inl (cy 0, (200, .inl t_round)))] → va_S A s.heap H locs → ∀ (ls : Array Slot), lv_has ls 10 [(0, .ref q_t), (1, .int v1), (5, .int v5), (7, .int v7), (8, .int v8)] → wp_X9_points_b177 (wp_X9_points_b319 Q) t_items v1 v5 v7 n177 t_many t_px t_py t_pz t_strip t_kind t_byHand t_round v8 → W p l e (headSpec wsX9_points ({ frames := 2, cells := 0, slots := 0, locals := 50 } : Room)).room s m (([.ref q_t, .int a1, .int a2, .int a3, .int a4, .int a5] : List Value)).toArray below meth c H locs 0 0 (MQ below (va_Qi (fun (r : Int32) (u : (Nat → Int32) × (Nat → Int32) × (Nat → Int32) × (Nat → Int32) × (Nat → Int32) × (Nat → Int32) × (Nat → Int32) × (Nat → Int32)) => Q r u.1 u.2.1 u.2.2.1 u.2.2.2.1 u.2.2.2.2.1 u.2.2.2.2.2.1 u.2.2.2.2.2.2.1 u.2.2.2.2.2.2.2) (py_B D (fun (u : (Nat → Int32) × (Nat → Int32) × (Nat → Int32) × (Nat → Int32) × (Nat → Int32) × (Nat → Int32) × (Nat → Int32) × (Nat → Int32)) => [(q_t, .inr (9, [.ref q_t_lanes, .ref q_t_sizes, .ref q_t_items, .ref q_t_spare, .ref q_t_many, .ref q_t_px, .ref q_t_py, .ref q_t_pz, .ref q_t_strip, .ref q_t_kind, .ref q_t_byHand, .ref q_t_round, .ref q_t_lost, .ref q_t_shifts, .ref q_t_matrix, .ref q_t_right, .ref q_t_found, .ref q_t_high, .int t_highs, .ref q_t_near, .ref q_t_cells, .ref q_t_part, .ref q_t_before, .ref q_t_tape, .int t_taped, .int t_at, .int t_fault, .int t_steps, .ref q_t_what, .ref q_t_numbers])), (q_t_lanes, .inl (cy 0, (4, .inl t_lanes))), (q_t_sizes, .inl (cy 0, (4, .inl t_sizes))), (q_t_items, .inl (cy 0, (160, .inl t_items))), (q_t_lost, .inl (cy 1, (32, .inl t_lost))), (q_t_many, .inl (cy 0, (2, .inl u.1))), (q_t_px, .inl (cy 0, (200, .inl u.2.1))), (q_t_py, .inl (cy 0, (200, .inl u.2.2.1))), (q_t_pz, .inl (cy 0, (200, .inl u.2.2.2.1))), (q_t_strip, .inl (cy 0, (200, .inl u.2.2.2.2.1))), (q_t_kind, .inl (cy 0, (200, .inl u.2.2.2.2.2.1))), (q_t_byHand, .inl (cy 0, (200, .inl u.2.2.2.2.2.2.1))), (q_t_round, .inl (cy 0, (200, .inl u.2.2.2.2.2.2.2)))]) A) A) (([.ref q_t, .int a1, .int a2, .int a3, .int a4, .int a5] : List Value)).toArray s 0 0 A) (F0 m 177 ls []) := by
                  intro v1 v5 v7 n177
                  induction n177 with
                  | zero => intro t_many t_px t_py t_pz t_strip t_kind t_byHand t_round v8 H locs hP hD hS ls hl h; exact False.elim h
                  | succ n177 ih177 =>
                    intro t_many t_px t_py t_pz t_strip t_kind t_byHand t_round v8 H locs hP hD hS ls hl h
                    have h : wp_X9_points_b177_f (wp_X9_points_b177 (wp_X9_points_b319 Q) t_items v1 v5 v7 n177) (wp_X9_points_b319 Q) t_items v1 v5 v7 t_many t_px t_py t_pz t_strip t_kind t_byHand t_round v8 := h
                    unfold wp_X9_points_b177_f at h
                    refine lv_iload hx hb dX9_points_177 (lv_at hl 4 rfl) ?_
                    refine lv_iload hx hb dX9_points_179 (lv_at hl 2 rfl) ?_
                    refine lv_icmp_ge (tgt := 319) hx hb dX9_points_181 (by decide) (fun c_ => ?_) (fun c_ => ?_)
                    · have h := h.1 c_
                      exact j319 t_many t_px t_py t_pz t_strip t_kind t_byHand t_round v1 _ _ hP hD hS _ (lv_sub hl [0, 1] rfl) h
                    · have h := h.2 c_
                      refine lv_bipush (v := (100 : Int32)) hx hb dX9_points_184 (by decide) ?_
                      refine lv_iload_n hx hb dX9_points_186 rfl (lv_at hl 1 rfl) ?_
                      refine lv_imul hx hb dX9_points_187 ?_
                      refine lv_aload_n hx hb dX9_points_188 rfl (lv_at hl 0 rfl) ?_
                      refine va_get (D := D) (ci := 9) (C := RX9) (T := TX9) (N := 30) hx hb hts hi_X9 hown hK hP 0 rfl rfl 4 (by decide) (hts (.fieldLink RX9 22 "RayGroundModel" "many" "[I") (List.mem_of_getElem? (i := 4) rfl)) (fun _ h9 => h9) rfl dX9_points_189 ?_
                      refine lv_iload_n hx hb dX9_points_192 rfl (lv_at hl 1 rfl) ?_
                      refine py_iald hx hb hK hP 5 0 rfl rfl (k := v1.toNatClampNeg) rfl h.1 dX9_points_193 ?_
                      have h := h.2
                      refine lv_iadd hx hb dX9_points_194 ?_
                      refine lv_topi (fun v9_6 ev9_6 => ?_)
                      have h := h v9_6 ev9_6
                      refine lv_istore (lv' := [(9, .int v9_6), (0, .ref q_t), (1, .int v1), (5, .int v5), (7, .int v7), (8, .int v8)]) hx hb dX9_points_195 hl (by decide) rfl (fun ls hl => ?_)
                      refine lv_aload_n hx hb dX9_points_197 rfl (lv_at hl 1 rfl) ?_
                      refine va_get (D := D) (ci := 9) (C := RX9) (T := TX9) (N := 30) hx hb hts hi_X9 hown hK hP 0 rfl rfl 5 (by decide) (hts (.fieldLink RX9 25 "RayGroundModel" "px" "[I") (List.mem_of_getElem? (i := 5) rfl)) (fun _ h9 => h9) rfl dX9_points_198 ?_
                      refine lv_iload hx hb dX9_points_201 (lv_at hl 0 rfl) ?_
                      refine lv_aload_n hx hb dX9_points_203 rfl (lv_at hl 1 rfl) ?_
                      refine va_get (D := D) (ci := 9) (C := RX9) (T := TX9) (N := 30) hx hb hts hi_X9 hown hK hP 0 rfl rfl 2 (by decide) (hts (.fieldLink RX9 16 "RayGroundModel" "items" "[I") (List.mem_of_getElem? (i := 3) rfl)) (fun _ h9 => h9) rfl dX9_points_204 ?_
                      refine lv_iload hx hb dX9_points_207 (lv_at hl 4 rfl) ?_
                      refine lv_iconst (v := (4 : Int32)) hx hb dX9_points_209 (by decide) ?_
                      refine lv_iload hx hb dX9_points_210 (lv_at hl 5 rfl) ?_
                      refine lv_imul hx hb dX9_points_212 ?_
                      refine lv_iadd hx hb dX9_points_213 ?_
                      refine py_iald hx hb hK hP 3 0 rfl rfl (k := (v7 + ((4 : Int32) * v8)).toNatClampNeg) rfl h.1 dX9_points_214 ?_
                      have h := h.2
                      refine py_iast hx hb hK hP hD hS 6 0 rfl rfl (k := v9_6.toNatClampNeg) rfl h.1 dX9_points_215 (fun H locs hP hD hS => ?_)
                      have h := h.2
                      have hP : va_P D vwCl [(q_t, .inr (9, [.ref q_t_lanes, .ref q_t_sizes, .ref q_t_items, .ref q_t_spare, .ref q_t_many, .ref q_t_px, .ref q_t_py, .ref q_t_pz, .ref q_t_strip, .ref q_t_kind, .ref q_t_byHand, .ref q_t_round, .ref q_t_lost, .ref q_t_shifts, .ref q_t_matrix, .ref q_t_right, .ref q_t_found, .ref q_t_high, .int t_highs, .ref q_t_near, .ref q_t_cells, .ref q_t_part, .ref q_t_before, .ref q_t_tape, .int t_taped, .int t_at, .int t_fault, .int t_steps, .ref q_t_what, .ref q_t_numbers])), (q_t_lanes, .inl (cy 0, (4, .inl t_lanes))), (q_t_sizes, .inl (cy 0, (4, .inl t_sizes))), (q_t_items, .inl (cy 0, (160, .inl t_items))), (q_t_lost, .inl (cy 1, (32, .inl t_lost))), (q_t_many, .inl (cy 0, (2, .inl t_many))), (q_t_px, .inl (cy 0, (200, .inl (upd t_px v9_6.toNatClampNeg (t_items ((v7 + ((4 : Int32) * v8)).toNatClampNeg)))))), (q_t_py, .inl (cy 0, (200, .inl t_py))), (q_t_pz, .inl (cy 0, (200, .inl t_pz))), (q_t_strip, .inl (cy 0, (200, .inl t_strip))), (q_t_kind, .inl (cy 0, (200, .inl t_kind))), (q_t_byHand, .inl (cy 0, (200, .inl t_byHand))), (q_t_round, .inl (cy 0, (200, .inl t_round)))] H := hP
                      have hD : va_D A [(q_t, .inr (9, [.ref q_t_lanes, .ref q_t_sizes, .ref q_t_items, .ref q_t_spare, .ref q_t_many, .ref q_t_px, .ref q_t_py, .ref q_t_pz, .ref q_t_strip, .ref q_t_kind, .ref q_t_byHand, .ref q_t_round, .ref q_t_lost, .ref q_t_shifts, .ref q_t_matrix, .ref q_t_right, .ref q_t_found, .ref q_t_high, .int t_highs, .ref q_t_near, .ref q_t_cells, .ref q_t_part, .ref q_t_before, .ref q_t_tape, .int t_taped, .int t_at, .int t_fault, .int t_steps, .ref q_t_what, .ref q_t_numbers])), (q_t_lanes, .inl (cy 0, (4, .inl t_lanes))), (q_t_sizes, .inl (cy 0, (4, .inl t_sizes))), (q_t_items, .inl (cy 0, (160, .inl t_items))), (q_t_lost, .inl (cy 1, (32, .inl t_lost))), (q_t_many, .inl (cy 0, (2, .inl t_many))), (q_t_px, .inl (cy 0, (200, .inl (upd t_px v9_6.toNatClampNeg (t_items ((v7 + ((4 : Int32) * v8)).toNatClampNeg)))))), (q_t_py, .inl (cy 0, (200, .inl t_py))), (q_t_pz, .inl (cy 0, (200, .inl t_pz))), (q_t_strip, .inl (cy 0, (200, .inl t_strip))), (q_t_kind, .inl (cy 0, (200, .inl t_kind))), (q_t_byHand, .inl (cy 0, (200, .inl t_byHand))), (q_t_round, .inl (cy 0, (200, .inl t_round)))] := hD
                      refine lv_aload_n hx hb dX9_points_216 rfl (lv_at hl 1 rfl) ?_
                      refine va_get (D := D) (ci := 9) (C := RX9) (T := TX9) (N := 30) hx hb hts hi_X9 hown hK hP 0 rfl rfl 6 (by decide) (hts (.fieldLink RX9 28 "RayGroundModel" "py" "[I") (List.mem_of_getElem? (i := 6) rfl)) (fun _ h9 => h9) rfl dX9_points_217 ?_
                      refine lv_iload hx hb dX9_points_220 (lv_at hl 0 rfl) ?_
                      refine lv_aload_n hx hb dX9_points_222 rfl (lv_at hl 1 rfl) ?_
                      refine va_get (D := D) (ci := 9) (C := RX9) (T := TX9) (N := 30) hx hb hts hi_X9 hown hK hP 0 rfl rfl 2 (by decide) (hts (.fieldLink RX9 16 "RayGroundModel" "items" "[I") (List.mem_of_getElem? (i := 3) rfl)) (fun _ h9 => h9) rfl dX9_points_223 ?_
                      refine lv_iload hx hb dX9_points_226 (lv_at hl 4 rfl) ?_
                      refine lv_iconst (v := (4 : Int32)) hx hb dX9_points_228 (by decide) ?_
                      refine lv_iload hx hb dX9_points_229 (lv_at hl 5 rfl) ?_
                      refine lv_imul hx hb dX9_points_231 ?_
                      refine lv_iadd hx hb dX9_points_232 ?_
                      refine lv_iconst (v := (1 : Int32)) hx hb dX9_points_233 (by decide) ?_
                      refine lv_iadd hx hb dX9_points_234 ?_
                      refine py_iald hx hb hK hP 3 0 rfl rfl (k := ((v7 + ((4 : Int32) * v8)) + (1 : Int32)).toNatClampNeg) rfl h.1 dX9_points_235 ?_
                      have h := h.2
                      refine py_iast hx hb hK hP hD hS 7 0 rfl rfl (k := v9_6.toNatClampNeg) rfl h.1 dX9_points_236 (fun H locs hP hD hS => ?_)
                      have h := h.2
                      have hP : va_P D vwCl [(q_t, .inr (9, [.ref q_t_lanes, .ref q_t_sizes, .ref q_t_items, .ref q_t_spare, .ref q_t_many, .ref q_t_px, .ref q_t_py, .ref q_t_pz, .ref q_t_strip, .ref q_t_kind, .ref q_t_byHand, .ref q_t_round, .ref q_t_lost, .ref q_t_shifts, .ref q_t_matrix, .ref q_t_right, .ref q_t_found, .ref q_t_high, .int t_highs, .ref q_t_near, .ref q_t_cells, .ref q_t_part, .ref q_t_before, .ref q_t_tape, .int t_taped, .int t_at, .int t_fault, .int t_steps, .ref q_t_what, .ref q_t_numbers])), (q_t_lanes, .inl (cy 0, (4, .inl t_lanes))), (q_t_sizes, .inl (cy 0, (4, .inl t_sizes))), (q_t_items, .inl (cy 0, (160, .inl t_items))), (q_t_lost, .inl (cy 1, (32, .inl t_lost))), (q_t_many, .inl (cy 0, (2, .inl t_many))), (q_t_px, .inl (cy 0, (200, .inl (upd t_px v9_6.toNatClampNeg (t_items ((v7 + ((4 : Int32) * v8)).toNatClampNeg)))))), (q_t_py, .inl (cy 0, (200, .inl (upd t_py v9_6.toNatClampNeg (t_items (((v7 + ((4 : Int32) * v8)) + (1 : Int32)).toNatClampNeg)))))), (q_t_pz, .inl (cy 0, (200, .inl t_pz))), (q_t_strip, .inl (cy 0, (200, .inl t_strip))), (q_t_kind, .inl (cy 0, (200, .inl t_kind))), (q_t_byHand, .inl (cy 0, (200, .inl t_byHand))), (q_t_round, .inl (cy 0, (200, .inl t_round)))] H := hP
                      have hD : va_D A [(q_t, .inr (9, [.ref q_t_lanes, .ref q_t_sizes, .ref q_t_items, .ref q_t_spare, .ref q_t_many, .ref q_t_px, .ref q_t_py, .ref q_t_pz, .ref q_t_strip, .ref q_t_kind, .ref q_t_byHand, .ref q_t_round, .ref q_t_lost, .ref q_t_shifts, .ref q_t_matrix, .ref q_t_right, .ref q_t_found, .ref q_t_high, .int t_highs, .ref q_t_near, .ref q_t_cells, .ref q_t_part, .ref q_t_before, .ref q_t_tape, .int t_taped, .int t_at, .int t_fault, .int t_steps, .ref q_t_what, .ref q_t_numbers])), (q_t_lanes, .inl (cy 0, (4, .inl t_lanes))), (q_t_sizes, .inl (cy 0, (4, .inl t_sizes))), (q_t_items, .inl (cy 0, (160, .inl t_items))), (q_t_lost, .inl (cy 1, (32, .inl t_lost))), (q_t_many, .inl (cy 0, (2, .inl t_many))), (q_t_px, .inl (cy 0, (200, .inl (upd t_px v9_6.toNatClampNeg (t_items ((v7 + ((4 : Int32) * v8)).toNatClampNeg)))))), (q_t_py, .inl (cy 0, (200, .inl (upd t_py v9_6.toNatClampNeg (t_items (((v7 + ((4 : Int32) * v8)) + (1 : Int32)).toNatClampNeg)))))), (q_t_pz, .inl (cy 0, (200, .inl t_pz))), (q_t_strip, .inl (cy 0, (200, .inl t_strip))), (q_t_kind, .inl (cy 0, (200, .inl t_kind))), (q_t_byHand, .inl (cy 0, (200, .inl t_byHand))), (q_t_round, .inl (cy 0, (200, .inl t_round)))] := hD
                      refine lv_aload_n hx hb dX9_points_237 rfl (lv_at hl 1 rfl) ?_
                      refine va_get (D := D) (ci := 9) (C := RX9) (T := TX9) (N := 30) hx hb hts hi_X9 hown hK hP 0 rfl rfl 7 (by decide) (hts (.fieldLink RX9 31 "RayGroundModel" "pz" "[I") (List.mem_of_getElem? (i := 7) rfl)) (fun _ h9 => h9) rfl dX9_points_238 ?_
                      refine lv_iload hx hb dX9_points_241 (lv_at hl 0 rfl) ?_
                      refine lv_aload_n hx hb dX9_points_243 rfl (lv_at hl 1 rfl) ?_
                      refine va_get (D := D) (ci := 9) (C := RX9) (T := TX9) (N := 30) hx hb hts hi_X9 hown hK hP 0 rfl rfl 2 (by decide) (hts (.fieldLink RX9 16 "RayGroundModel" "items" "[I") (List.mem_of_getElem? (i := 3) rfl)) (fun _ h9 => h9) rfl dX9_points_244 ?_
                      refine lv_iload hx hb dX9_points_247 (lv_at hl 4 rfl) ?_
                      refine lv_iconst (v := (4 : Int32)) hx hb dX9_points_249 (by decide) ?_
                      refine lv_iload hx hb dX9_points_250 (lv_at hl 5 rfl) ?_
                      refine lv_imul hx hb dX9_points_252 ?_
                      refine lv_iadd hx hb dX9_points_253 ?_
                      refine lv_iconst (v := (2 : Int32)) hx hb dX9_points_254 (by decide) ?_
                      refine lv_iadd hx hb dX9_points_255 ?_
                      refine py_iald hx hb hK hP 3 0 rfl rfl (k := ((v7 + ((4 : Int32) * v8)) + (2 : Int32)).toNatClampNeg) rfl h.1 dX9_points_256 ?_
                      have h := h.2
                      refine py_iast hx hb hK hP hD hS 8 0 rfl rfl (k := v9_6.toNatClampNeg) rfl h.1 dX9_points_257 (fun H locs hP hD hS => ?_)
                      have h := h.2
                      have hP : va_P D vwCl [(q_t, .inr (9, [.ref q_t_lanes, .ref q_t_sizes, .ref q_t_items, .ref q_t_spare, .ref q_t_many, .ref q_t_px, .ref q_t_py, .ref q_t_pz, .ref q_t_strip, .ref q_t_kind, .ref q_t_byHand, .ref q_t_round, .ref q_t_lost, .ref q_t_shifts, .ref q_t_matrix, .ref q_t_right, .ref q_t_found, .ref q_t_high, .int t_highs, .ref q_t_near, .ref q_t_cells, .ref q_t_part, .ref q_t_before, .ref q_t_tape, .int t_taped, .int t_at, .int t_fault, .int t_steps, .ref q_t_what, .ref q_t_numbers])), (q_t_lanes, .inl (cy 0, (4, .inl t_lanes))), (q_t_sizes, .inl (cy 0, (4, .inl t_sizes))), (q_t_items, .inl (cy 0, (160, .inl t_items))), (q_t_lost, .inl (cy 1, (32, .inl t_lost))), (q_t_many, .inl (cy 0, (2, .inl t_many))), (q_t_px, .inl (cy 0, (200, .inl (upd t_px v9_6.toNatClampNeg (t_items ((v7 + ((4 : Int32) * v8)).toNatClampNeg)))))), (q_t_py, .inl (cy 0, (200, .inl (upd t_py v9_6.toNatClampNeg (t_items (((v7 + ((4 : Int32) * v8)) + (1 : Int32)).toNatClampNeg)))))), (q_t_pz, .inl (cy 0, (200, .inl (upd t_pz v9_6.toNatClampNeg (t_items (((v7 + ((4 : Int32) * v8)) + (2 : Int32)).toNatClampNeg)))))), (q_t_strip, .inl (cy 0, (200, .inl t_strip))), (q_t_kind, .inl (cy 0, (200, .inl t_kind))), (q_t_byHand, .inl (cy 0, (200, .inl t_byHand))), (q_t_round, .inl (cy 0, (200, .inl t_round)))] H := hP
                      have hD : va_D A [(q_t, .inr (9, [.ref q_t_lanes, .ref q_t_sizes, .ref q_t_items, .ref q_t_spare, .ref q_t_many, .ref q_t_px, .ref q_t_py, .ref q_t_pz, .ref q_t_strip, .ref q_t_kind, .ref q_t_byHand, .ref q_t_round, .ref q_t_lost, .ref q_t_shifts, .ref q_t_matrix, .ref q_t_right, .ref q_t_found, .ref q_t_high, .int t_highs, .ref q_t_near, .ref q_t_cells, .ref q_t_part, .ref q_t_before, .ref q_t_tape, .int t_taped, .int t_at, .int t_fault, .int t_steps, .ref q_t_what, .ref q_t_numbers])), (q_t_lanes, .inl (cy 0, (4, .inl t_lanes))), (q_t_sizes, .inl (cy 0, (4, .inl t_sizes))), (q_t_items, .inl (cy 0, (160, .inl t_items))), (q_t_lost, .inl (cy 1, (32, .inl t_lost))), (q_t_many, .inl (cy 0, (2, .inl t_many))), (q_t_px, .inl (cy 0, (200, .inl (upd t_px v9_6.toNatClampNeg (t_items ((v7 + ((4 : Int32) * v8)).toNatClampNeg)))))), (q_t_py, .inl (cy 0, (200, .inl (upd t_py v9_6.toNatClampNeg (t_items (((v7 + ((4 : Int32) * v8)) + (1 : Int32)).toNatClampNeg)))))), (q_t_pz, .inl (cy 0, (200, .inl (upd t_pz v9_6.toNatClampNeg (t_items (((v7 + ((4 : Int32) * v8)) + (2 : Int32)).toNatClampNeg)))))), (q_t_strip, .inl (cy 0, (200, .inl t_strip))), (q_t_kind, .inl (cy 0, (200, .inl t_kind))), (q_t_byHand, .inl (cy 0, (200, .inl t_byHand))), (q_t_round, .inl (cy 0, (200, .inl t_round)))] := hD
                      refine lv_aload_n hx hb dX9_points_258 rfl (lv_at hl 1 rfl) ?_
                      refine va_get (D := D) (ci := 9) (C := RX9) (T := TX9) (N := 30) hx hb hts hi_X9 hown hK hP 0 rfl rfl 8 (by decide) (hts (.fieldLink RX9 34 "RayGroundModel" "strip" "[I") (List.mem_of_getElem? (i := 8) rfl)) (fun _ h9 => h9) rfl dX9_points_259 ?_
                      refine lv_iload hx hb dX9_points_262 (lv_at hl 0 rfl) ?_
                      refine lv_aload_n hx hb dX9_points_264 rfl (lv_at hl 1 rfl) ?_
                      refine va_get (D := D) (ci := 9) (C := RX9) (T := TX9) (N := 30) hx hb hts hi_X9 hown hK hP 0 rfl rfl 2 (by decide) (hts (.fieldLink RX9 16 "RayGroundModel" "items" "[I") (List.mem_of_getElem? (i := 3) rfl)) (fun _ h9 => h9) rfl dX9_points_265 ?_
                      refine lv_iload hx hb dX9_points_268 (lv_at hl 4 rfl) ?_
                      refine lv_iconst (v := (4 : Int32)) hx hb dX9_points_270 (by decide) ?_
                      refine lv_iload hx hb dX9_points_271 (lv_at hl 5 rfl) ?_
                      refine lv_imul hx hb dX9_points_273 ?_
                      refine lv_iadd hx hb dX9_points_274 ?_
                      refine lv_iconst (v := (3 : Int32)) hx hb dX9_points_275 (by decide) ?_
                      refine lv_iadd hx hb dX9_points_276 ?_
                      refine py_iald hx hb hK hP 3 0 rfl rfl (k := ((v7 + ((4 : Int32) * v8)) + (3 : Int32)).toNatClampNeg) rfl h.1 dX9_points_277 ?_
                      have h := h.2
                      refine py_iast hx hb hK hP hD hS 9 0 rfl rfl (k := v9_6.toNatClampNeg) rfl h.1 dX9_points_278 (fun H locs hP hD hS => ?_)
                      have h := h.2
                      have hP : va_P D vwCl [(q_t, .inr (9, [.ref q_t_lanes, .ref q_t_sizes, .ref q_t_items, .ref q_t_spare, .ref q_t_many, .ref q_t_px, .ref q_t_py, .ref q_t_pz, .ref q_t_strip, .ref q_t_kind, .ref q_t_byHand, .ref q_t_round, .ref q_t_lost, .ref q_t_shifts, .ref q_t_matrix, .ref q_t_right, .ref q_t_found, .ref q_t_high, .int t_highs, .ref q_t_near, .ref q_t_cells, .ref q_t_part, .ref q_t_before, .ref q_t_tape, .int t_taped, .int t_at, .int t_fault, .int t_steps, .ref q_t_what, .ref q_t_numbers])), (q_t_lanes, .inl (cy 0, (4, .inl t_lanes))), (q_t_sizes, .inl (cy 0, (4, .inl t_sizes))), (q_t_items, .inl (cy 0, (160, .inl t_items))), (q_t_lost, .inl (cy 1, (32, .inl t_lost))), (q_t_many, .inl (cy 0, (2, .inl t_many))), (q_t_px, .inl (cy 0, (200, .inl (upd t_px v9_6.toNatClampNeg (t_items ((v7 + ((4 : Int32) * v8)).toNatClampNeg)))))), (q_t_py, .inl (cy 0, (200, .inl (upd t_py v9_6.toNatClampNeg (t_items (((v7 + ((4 : Int32) * v8)) + (1 : Int32)).toNatClampNeg)))))), (q_t_pz, .inl (cy 0, (200, .inl (upd t_pz v9_6.toNatClampNeg (t_items (((v7 + ((4 : Int32) * v8)) + (2 : Int32)).toNatClampNeg)))))), (q_t_strip, .inl (cy 0, (200, .inl (upd t_strip v9_6.toNatClampNeg (t_items (((v7 + ((4 : Int32) * v8)) + (3 : Int32)).toNatClampNeg)))))), (q_t_kind, .inl (cy 0, (200, .inl t_kind))), (q_t_byHand, .inl (cy 0, (200, .inl t_byHand))), (q_t_round, .inl (cy 0, (200, .inl t_round)))] H := hP
                      have hD : va_D A [(q_t, .inr (9, [.ref q_t_lanes, .ref q_t_sizes, .ref q_t_items, .ref q_t_spare, .ref q_t_many, .ref q_t_px, .ref q_t_py, .ref q_t_pz, .ref q_t_strip, .ref q_t_kind, .ref q_t_byHand, .ref q_t_round, .ref q_t_lost, .ref q_t_shifts, .ref q_t_matrix, .ref q_t_right, .ref q_t_found, .ref q_t_high, .int t_highs, .ref q_t_near, .ref q_t_cells, .ref q_t_part, .ref q_t_before, .ref q_t_tape, .int t_taped, .int t_at, .int t_fault, .int t_steps, .ref q_t_what, .ref q_t_numbers])), (q_t_lanes, .inl (cy 0, (4, .inl t_lanes))), (q_t_sizes, .inl (cy 0, (4, .inl t_sizes))), (q_t_items, .inl (cy 0, (160, .inl t_items))), (q_t_lost, .inl (cy 1, (32, .inl t_lost))), (q_t_many, .inl (cy 0, (2, .inl t_many))), (q_t_px, .inl (cy 0, (200, .inl (upd t_px v9_6.toNatClampNeg (t_items ((v7 + ((4 : Int32) * v8)).toNatClampNeg)))))), (q_t_py, .inl (cy 0, (200, .inl (upd t_py v9_6.toNatClampNeg (t_items (((v7 + ((4 : Int32) * v8)) + (1 : Int32)).toNatClampNeg)))))), (q_t_pz, .inl (cy 0, (200, .inl (upd t_pz v9_6.toNatClampNeg (t_items (((v7 + ((4 : Int32) * v8)) + (2 : Int32)).toNatClampNeg)))))), (q_t_strip, .inl (cy 0, (200, .inl (upd t_strip v9_6.toNatClampNeg (t_items (((v7 + ((4 : Int32) * v8)) + (3 : Int32)).toNatClampNeg)))))), (q_t_kind, .inl (cy 0, (200, .inl t_kind))), (q_t_byHand, .inl (cy 0, (200, .inl t_byHand))), (q_t_round, .inl (cy 0, (200, .inl t_round)))] := hD
                      refine lv_aload_n hx hb dX9_points_279 rfl (lv_at hl 1 rfl) ?_
                      refine va_get (D := D) (ci := 9) (C := RX9) (T := TX9) (N := 30) hx hb hts hi_X9 hown hK hP 0 rfl rfl 9 (by decide) (hts (.fieldLink RX9 37 "RayGroundModel" "kind" "[I") (List.mem_of_getElem? (i := 9) rfl)) (fun _ h9 => h9) rfl dX9_points_280 ?_
                      refine lv_iload hx hb dX9_points_283 (lv_at hl 0 rfl) ?_
                      refine lv_iconst (v := (0 : Int32)) hx hb dX9_points_285 (by decide) ?_
                      refine py_iast hx hb hK hP hD hS 10 0 rfl rfl (k := v9_6.toNatClampNeg) rfl h.1 dX9_points_286 (fun H locs hP hD hS => ?_)
                      have h := h.2
                      have hP : va_P D vwCl [(q_t, .inr (9, [.ref q_t_lanes, .ref q_t_sizes, .ref q_t_items, .ref q_t_spare, .ref q_t_many, .ref q_t_px, .ref q_t_py, .ref q_t_pz, .ref q_t_strip, .ref q_t_kind, .ref q_t_byHand, .ref q_t_round, .ref q_t_lost, .ref q_t_shifts, .ref q_t_matrix, .ref q_t_right, .ref q_t_found, .ref q_t_high, .int t_highs, .ref q_t_near, .ref q_t_cells, .ref q_t_part, .ref q_t_before, .ref q_t_tape, .int t_taped, .int t_at, .int t_fault, .int t_steps, .ref q_t_what, .ref q_t_numbers])), (q_t_lanes, .inl (cy 0, (4, .inl t_lanes))), (q_t_sizes, .inl (cy 0, (4, .inl t_sizes))), (q_t_items, .inl (cy 0, (160, .inl t_items))), (q_t_lost, .inl (cy 1, (32, .inl t_lost))), (q_t_many, .inl (cy 0, (2, .inl t_many))), (q_t_px, .inl (cy 0, (200, .inl (upd t_px v9_6.toNatClampNeg (t_items ((v7 + ((4 : Int32) * v8)).toNatClampNeg)))))), (q_t_py, .inl (cy 0, (200, .inl (upd t_py v9_6.toNatClampNeg (t_items (((v7 + ((4 : Int32) * v8)) + (1 : Int32)).toNatClampNeg)))))), (q_t_pz, .inl (cy 0, (200, .inl (upd t_pz v9_6.toNatClampNeg (t_items (((v7 + ((4 : Int32) * v8)) + (2 : Int32)).toNatClampNeg)))))), (q_t_strip, .inl (cy 0, (200, .inl (upd t_strip v9_6.toNatClampNeg (t_items (((v7 + ((4 : Int32) * v8)) + (3 : Int32)).toNatClampNeg)))))), (q_t_kind, .inl (cy 0, (200, .inl (upd t_kind v9_6.toNatClampNeg (0 : Int32))))), (q_t_byHand, .inl (cy 0, (200, .inl t_byHand))), (q_t_round, .inl (cy 0, (200, .inl t_round)))] H := hP
                      have hD : va_D A [(q_t, .inr (9, [.ref q_t_lanes, .ref q_t_sizes, .ref q_t_items, .ref q_t_spare, .ref q_t_many, .ref q_t_px, .ref q_t_py, .ref q_t_pz, .ref q_t_strip, .ref q_t_kind, .ref q_t_byHand, .ref q_t_round, .ref q_t_lost, .ref q_t_shifts, .ref q_t_matrix, .ref q_t_right, .ref q_t_found, .ref q_t_high, .int t_highs, .ref q_t_near, .ref q_t_cells, .ref q_t_part, .ref q_t_before, .ref q_t_tape, .int t_taped, .int t_at, .int t_fault, .int t_steps, .ref q_t_what, .ref q_t_numbers])), (q_t_lanes, .inl (cy 0, (4, .inl t_lanes))), (q_t_sizes, .inl (cy 0, (4, .inl t_sizes))), (q_t_items, .inl (cy 0, (160, .inl t_items))), (q_t_lost, .inl (cy 1, (32, .inl t_lost))), (q_t_many, .inl (cy 0, (2, .inl t_many))), (q_t_px, .inl (cy 0, (200, .inl (upd t_px v9_6.toNatClampNeg (t_items ((v7 + ((4 : Int32) * v8)).toNatClampNeg)))))), (q_t_py, .inl (cy 0, (200, .inl (upd t_py v9_6.toNatClampNeg (t_items (((v7 + ((4 : Int32) * v8)) + (1 : Int32)).toNatClampNeg)))))), (q_t_pz, .inl (cy 0, (200, .inl (upd t_pz v9_6.toNatClampNeg (t_items (((v7 + ((4 : Int32) * v8)) + (2 : Int32)).toNatClampNeg)))))), (q_t_strip, .inl (cy 0, (200, .inl (upd t_strip v9_6.toNatClampNeg (t_items (((v7 + ((4 : Int32) * v8)) + (3 : Int32)).toNatClampNeg)))))), (q_t_kind, .inl (cy 0, (200, .inl (upd t_kind v9_6.toNatClampNeg (0 : Int32))))), (q_t_byHand, .inl (cy 0, (200, .inl t_byHand))), (q_t_round, .inl (cy 0, (200, .inl t_round)))] := hD
                      refine lv_aload_n hx hb dX9_points_287 rfl (lv_at hl 1 rfl) ?_
                      refine va_get (D := D) (ci := 9) (C := RX9) (T := TX9) (N := 30) hx hb hts hi_X9 hown hK hP 0 rfl rfl 10 (by decide) (hts (.fieldLink RX9 40 "RayGroundModel" "byHand" "[I") (List.mem_of_getElem? (i := 10) rfl)) (fun _ h9 => h9) rfl dX9_points_288 ?_
                      refine lv_iload hx hb dX9_points_291 (lv_at hl 0 rfl) ?_
                      refine lv_iconst (v := (0 : Int32)) hx hb dX9_points_293 (by decide) ?_
                      refine py_iast hx hb hK hP hD hS 11 0 rfl rfl (k := v9_6.toNatClampNeg) rfl h.1 dX9_points_294 (fun H locs hP hD hS => ?_)
                      have h := h.2
                      have hP : va_P D vwCl [(q_t, .inr (9, [.ref q_t_lanes, .ref q_t_sizes, .ref q_t_items, .ref q_t_spare, .ref q_t_many, .ref q_t_px, .ref q_t_py, .ref q_t_pz, .ref q_t_strip, .ref q_t_kind, .ref q_t_byHand, .ref q_t_round, .ref q_t_lost, .ref q_t_shifts, .ref q_t_matrix, .ref q_t_right, .ref q_t_found, .ref q_t_high, .int t_highs, .ref q_t_near, .ref q_t_cells, .ref q_t_part, .ref q_t_before, .ref q_t_tape, .int t_taped, .int t_at, .int t_fault, .int t_steps, .ref q_t_what, .ref q_t_numbers])), (q_t_lanes, .inl (cy 0, (4, .inl t_lanes))), (q_t_sizes, .inl (cy 0, (4, .inl t_sizes))), (q_t_items, .inl (cy 0, (160, .inl t_items))), (q_t_lost, .inl (cy 1, (32, .inl t_lost))), (q_t_many, .inl (cy 0, (2, .inl t_many))), (q_t_px, .inl (cy 0, (200, .inl (upd t_px v9_6.toNatClampNeg (t_items ((v7 + ((4 : Int32) * v8)).toNatClampNeg)))))), (q_t_py, .inl (cy 0, (200, .inl (upd t_py v9_6.toNatClampNeg (t_items (((v7 + ((4 : Int32) * v8)) + (1 : Int32)).toNatClampNeg)))))), (q_t_pz, .inl (cy 0, (200, .inl (upd t_pz v9_6.toNatClampNeg (t_items (((v7 + ((4 : Int32) * v8)) + (2 : Int32)).toNatClampNeg)))))), (q_t_strip, .inl (cy 0, (200, .inl (upd t_strip v9_6.toNatClampNeg (t_items (((v7 + ((4 : Int32) * v8)) + (3 : Int32)).toNatClampNeg)))))), (q_t_kind, .inl (cy 0, (200, .inl (upd t_kind v9_6.toNatClampNeg (0 : Int32))))), (q_t_byHand, .inl (cy 0, (200, .inl (upd t_byHand v9_6.toNatClampNeg (0 : Int32))))), (q_t_round, .inl (cy 0, (200, .inl t_round)))] H := hP
                      have hD : va_D A [(q_t, .inr (9, [.ref q_t_lanes, .ref q_t_sizes, .ref q_t_items, .ref q_t_spare, .ref q_t_many, .ref q_t_px, .ref q_t_py, .ref q_t_pz, .ref q_t_strip, .ref q_t_kind, .ref q_t_byHand, .ref q_t_round, .ref q_t_lost, .ref q_t_shifts, .ref q_t_matrix, .ref q_t_right, .ref q_t_found, .ref q_t_high, .int t_highs, .ref q_t_near, .ref q_t_cells, .ref q_t_part, .ref q_t_before, .ref q_t_tape, .int t_taped, .int t_at, .int t_fault, .int t_steps, .ref q_t_what, .ref q_t_numbers])), (q_t_lanes, .inl (cy 0, (4, .inl t_lanes))), (q_t_sizes, .inl (cy 0, (4, .inl t_sizes))), (q_t_items, .inl (cy 0, (160, .inl t_items))), (q_t_lost, .inl (cy 1, (32, .inl t_lost))), (q_t_many, .inl (cy 0, (2, .inl t_many))), (q_t_px, .inl (cy 0, (200, .inl (upd t_px v9_6.toNatClampNeg (t_items ((v7 + ((4 : Int32) * v8)).toNatClampNeg)))))), (q_t_py, .inl (cy 0, (200, .inl (upd t_py v9_6.toNatClampNeg (t_items (((v7 + ((4 : Int32) * v8)) + (1 : Int32)).toNatClampNeg)))))), (q_t_pz, .inl (cy 0, (200, .inl (upd t_pz v9_6.toNatClampNeg (t_items (((v7 + ((4 : Int32) * v8)) + (2 : Int32)).toNatClampNeg)))))), (q_t_strip, .inl (cy 0, (200, .inl (upd t_strip v9_6.toNatClampNeg (t_items (((v7 + ((4 : Int32) * v8)) + (3 : Int32)).toNatClampNeg)))))), (q_t_kind, .inl (cy 0, (200, .inl (upd t_kind v9_6.toNatClampNeg (0 : Int32))))), (q_t_byHand, .inl (cy 0, (200, .inl (upd t_byHand v9_6.toNatClampNeg (0 : Int32))))), (q_t_round, .inl (cy 0, (200, .inl t_round)))] := hD
                      refine lv_aload_n hx hb dX9_points_295 rfl (lv_at hl 1 rfl) ?_
                      refine va_get (D := D) (ci := 9) (C := RX9) (T := TX9) (N := 30) hx hb hts hi_X9 hown hK hP 0 rfl rfl 11 (by decide) (hts (.fieldLink RX9 43 "RayGroundModel" "round" "[I") (List.mem_of_getElem? (i := 11) rfl)) (fun _ h9 => h9) rfl dX9_points_296 ?_
                      refine lv_iload hx hb dX9_points_299 (lv_at hl 0 rfl) ?_
                      refine lv_iconst (v := (-1 : Int32)) hx hb dX9_points_301 (by decide) ?_
                      refine py_iast hx hb hK hP hD hS 12 0 rfl rfl (k := v9_6.toNatClampNeg) rfl h.1 dX9_points_302 (fun H locs hP hD hS => ?_)
                      have h := h.2
                      have hP : va_P D vwCl [(q_t, .inr (9, [.ref q_t_lanes, .ref q_t_sizes, .ref q_t_items, .ref q_t_spare, .ref q_t_many, .ref q_t_px, .ref q_t_py, .ref q_t_pz, .ref q_t_strip, .ref q_t_kind, .ref q_t_byHand, .ref q_t_round, .ref q_t_lost, .ref q_t_shifts, .ref q_t_matrix, .ref q_t_right, .ref q_t_found, .ref q_t_high, .int t_highs, .ref q_t_near, .ref q_t_cells, .ref q_t_part, .ref q_t_before, .ref q_t_tape, .int t_taped, .int t_at, .int t_fault, .int t_steps, .ref q_t_what, .ref q_t_numbers])), (q_t_lanes, .inl (cy 0, (4, .inl t_lanes))), (q_t_sizes, .inl (cy 0, (4, .inl t_sizes))), (q_t_items, .inl (cy 0, (160, .inl t_items))), (q_t_lost, .inl (cy 1, (32, .inl t_lost))), (q_t_many, .inl (cy 0, (2, .inl t_many))), (q_t_px, .inl (cy 0, (200, .inl (upd t_px v9_6.toNatClampNeg (t_items ((v7 + ((4 : Int32) * v8)).toNatClampNeg)))))), (q_t_py, .inl (cy 0, (200, .inl (upd t_py v9_6.toNatClampNeg (t_items (((v7 + ((4 : Int32) * v8)) + (1 : Int32)).toNatClampNeg)))))), (q_t_pz, .inl (cy 0, (200, .inl (upd t_pz v9_6.toNatClampNeg (t_items (((v7 + ((4 : Int32) * v8)) + (2 : Int32)).toNatClampNeg)))))), (q_t_strip, .inl (cy 0, (200, .inl (upd t_strip v9_6.toNatClampNeg (t_items (((v7 + ((4 : Int32) * v8)) + (3 : Int32)).toNatClampNeg)))))), (q_t_kind, .inl (cy 0, (200, .inl (upd t_kind v9_6.toNatClampNeg (0 : Int32))))), (q_t_byHand, .inl (cy 0, (200, .inl (upd t_byHand v9_6.toNatClampNeg (0 : Int32))))), (q_t_round, .inl (cy 0, (200, .inl (upd t_round v9_6.toNatClampNeg (-1 : Int32)))))] H := hP
                      have hD : va_D A [(q_t, .inr (9, [.ref q_t_lanes, .ref q_t_sizes, .ref q_t_items, .ref q_t_spare, .ref q_t_many, .ref q_t_px, .ref q_t_py, .ref q_t_pz, .ref q_t_strip, .ref q_t_kind, .ref q_t_byHand, .ref q_t_round, .ref q_t_lost, .ref q_t_shifts, .ref q_t_matrix, .ref q_t_right, .ref q_t_found, .ref q_t_high, .int t_highs, .ref q_t_near, .ref q_t_cells, .ref q_t_part, .ref q_t_before, .ref q_t_tape, .int t_taped, .int t_at, .int t_fault, .int t_steps, .ref q_t_what, .ref q_t_numbers])), (q_t_lanes, .inl (cy 0, (4, .inl t_lanes))), (q_t_sizes, .inl (cy 0, (4, .inl t_sizes))), (q_t_items, .inl (cy 0, (160, .inl t_items))), (q_t_lost, .inl (cy 1, (32, .inl t_lost))), (q_t_many, .inl (cy 0, (2, .inl t_many))), (q_t_px, .inl (cy 0, (200, .inl (upd t_px v9_6.toNatClampNeg (t_items ((v7 + ((4 : Int32) * v8)).toNatClampNeg)))))), (q_t_py, .inl (cy 0, (200, .inl (upd t_py v9_6.toNatClampNeg (t_items (((v7 + ((4 : Int32) * v8)) + (1 : Int32)).toNatClampNeg)))))), (q_t_pz, .inl (cy 0, (200, .inl (upd t_pz v9_6.toNatClampNeg (t_items (((v7 + ((4 : Int32) * v8)) + (2 : Int32)).toNatClampNeg)))))), (q_t_strip, .inl (cy 0, (200, .inl (upd t_strip v9_6.toNatClampNeg (t_items (((v7 + ((4 : Int32) * v8)) + (3 : Int32)).toNatClampNeg)))))), (q_t_kind, .inl (cy 0, (200, .inl (upd t_kind v9_6.toNatClampNeg (0 : Int32))))), (q_t_byHand, .inl (cy 0, (200, .inl (upd t_byHand v9_6.toNatClampNeg (0 : Int32))))), (q_t_round, .inl (cy 0, (200, .inl (upd t_round v9_6.toNatClampNeg (-1 : Int32)))))] := hD
                      refine lv_aload_n hx hb dX9_points_303 rfl (lv_at hl 1 rfl) ?_
                      refine va_get (D := D) (ci := 9) (C := RX9) (T := TX9) (N := 30) hx hb hts hi_X9 hown hK hP 0 rfl rfl 4 (by decide) (hts (.fieldLink RX9 22 "RayGroundModel" "many" "[I") (List.mem_of_getElem? (i := 4) rfl)) (fun _ h9 => h9) rfl dX9_points_304 ?_
                      refine lv_iload_n hx hb dX9_points_307 rfl (lv_at hl 2 rfl) ?_
                      refine lv_dup2_11 hx hb dX9_points_308 rfl rfl ?_
                      refine py_iald hx hb hK hP 5 0 rfl rfl (k := v1.toNatClampNeg) rfl h.1 dX9_points_309 ?_
                      have h := h.2
                      refine lv_iconst (v := (1 : Int32)) hx hb dX9_points_310 (by decide) ?_
                      refine lv_iadd hx hb dX9_points_311 ?_
                      refine py_iast hx hb hK hP hD hS 5 0 rfl rfl (k := v1.toNatClampNeg) rfl h.1 dX9_points_312 (fun H locs hP hD hS => ?_)
                      have h := h.2
                      have hP : va_P D vwCl [(q_t, .inr (9, [.ref q_t_lanes, .ref q_t_sizes, .ref q_t_items, .ref q_t_spare, .ref q_t_many, .ref q_t_px, .ref q_t_py, .ref q_t_pz, .ref q_t_strip, .ref q_t_kind, .ref q_t_byHand, .ref q_t_round, .ref q_t_lost, .ref q_t_shifts, .ref q_t_matrix, .ref q_t_right, .ref q_t_found, .ref q_t_high, .int t_highs, .ref q_t_near, .ref q_t_cells, .ref q_t_part, .ref q_t_before, .ref q_t_tape, .int t_taped, .int t_at, .int t_fault, .int t_steps, .ref q_t_what, .ref q_t_numbers])), (q_t_lanes, .inl (cy 0, (4, .inl t_lanes))), (q_t_sizes, .inl (cy 0, (4, .inl t_sizes))), (q_t_items, .inl (cy 0, (160, .inl t_items))), (q_t_lost, .inl (cy 1, (32, .inl t_lost))), (q_t_many, .inl (cy 0, (2, .inl (upd t_many v1.toNatClampNeg ((t_many v1.toNatClampNeg) + (1 : Int32)))))), (q_t_px, .inl (cy 0, (200, .inl (upd t_px v9_6.toNatClampNeg (t_items ((v7 + ((4 : Int32) * v8)).toNatClampNeg)))))), (q_t_py, .inl (cy 0, (200, .inl (upd t_py v9_6.toNatClampNeg (t_items (((v7 + ((4 : Int32) * v8)) + (1 : Int32)).toNatClampNeg)))))), (q_t_pz, .inl (cy 0, (200, .inl (upd t_pz v9_6.toNatClampNeg (t_items (((v7 + ((4 : Int32) * v8)) + (2 : Int32)).toNatClampNeg)))))), (q_t_strip, .inl (cy 0, (200, .inl (upd t_strip v9_6.toNatClampNeg (t_items (((v7 + ((4 : Int32) * v8)) + (3 : Int32)).toNatClampNeg)))))), (q_t_kind, .inl (cy 0, (200, .inl (upd t_kind v9_6.toNatClampNeg (0 : Int32))))), (q_t_byHand, .inl (cy 0, (200, .inl (upd t_byHand v9_6.toNatClampNeg (0 : Int32))))), (q_t_round, .inl (cy 0, (200, .inl (upd t_round v9_6.toNatClampNeg (-1 : Int32)))))] H := hP
                      have hD : va_D A [(q_t, .inr (9, [.ref q_t_lanes, .ref q_t_sizes, .ref q_t_items, .ref q_t_spare, .ref q_t_many, .ref q_t_px, .ref q_t_py, .ref q_t_pz, .ref q_t_strip, .ref q_t_kind, .ref q_t_byHand, .ref q_t_round, .ref q_t_lost, .ref q_t_shifts, .ref q_t_matrix, .ref q_t_right, .ref q_t_found, .ref q_t_high, .int t_highs, .ref q_t_near, .ref q_t_cells, .ref q_t_part, .ref q_t_before, .ref q_t_tape, .int t_taped, .int t_at, .int t_fault, .int t_steps, .ref q_t_what, .ref q_t_numbers])), (q_t_lanes, .inl (cy 0, (4, .inl t_lanes))), (q_t_sizes, .inl (cy 0, (4, .inl t_sizes))), (q_t_items, .inl (cy 0, (160, .inl t_items))), (q_t_lost, .inl (cy 1, (32, .inl t_lost))), (q_t_many, .inl (cy 0, (2, .inl (upd t_many v1.toNatClampNeg ((t_many v1.toNatClampNeg) + (1 : Int32)))))), (q_t_px, .inl (cy 0, (200, .inl (upd t_px v9_6.toNatClampNeg (t_items ((v7 + ((4 : Int32) * v8)).toNatClampNeg)))))), (q_t_py, .inl (cy 0, (200, .inl (upd t_py v9_6.toNatClampNeg (t_items (((v7 + ((4 : Int32) * v8)) + (1 : Int32)).toNatClampNeg)))))), (q_t_pz, .inl (cy 0, (200, .inl (upd t_pz v9_6.toNatClampNeg (t_items (((v7 + ((4 : Int32) * v8)) + (2 : Int32)).toNatClampNeg)))))), (q_t_strip, .inl (cy 0, (200, .inl (upd t_strip v9_6.toNatClampNeg (t_items (((v7 + ((4 : Int32) * v8)) + (3 : Int32)).toNatClampNeg)))))), (q_t_kind, .inl (cy 0, (200, .inl (upd t_kind v9_6.toNatClampNeg (0 : Int32))))), (q_t_byHand, .inl (cy 0, (200, .inl (upd t_byHand v9_6.toNatClampNeg (0 : Int32))))), (q_t_round, .inl (cy 0, (200, .inl (upd t_round v9_6.toNatClampNeg (-1 : Int32)))))] := hD
                      obtain ⟨v8_7, ev8_7⟩ : ∃ y : Int32, y = v8 + (1 : Int32) := ⟨_, rfl⟩
                      have h := h v8_7 ev8_7
                      refine lv_iinc (v := v8_7) (lv' := [(8, .int v8_7), (9, .int v9_6), (0, .ref q_t), (1, .int v1), (5, .int v5), (7, .int v7)]) hx hb dX9_points_313 hl (k := 5) rfl (by rw [ev8_7]; rfl) (by decide) rfl (fun ls hl => ?_)
                      refine lv_goto (tgt := 177) hx hb dX9_points_316 (by decide) ?_
                      exact ih177 (upd t_many v1.toNatClampNeg ((t_many v1.toNatClampNeg) + (1 : Int32))) (upd t_px v9_6.toNatClampNeg (t_items ((v7 + ((4 : Int32) * v8)).toNatClampNeg))) (upd t_py v9_6.toNatClampNeg (t_items (((v7 + ((4 : Int32) * v8)) + (1 : Int32)).toNatClampNeg))) (upd t_pz v9_6.toNatClampNeg (t_items (((v7 + ((4 : Int32) * v8)) + (2 : Int32)).toNatClampNeg))) (upd t_strip v9_6.toNatClampNeg (t_items (((v7 + ((4 : Int32) * v8)) + (3 : Int32)).toNatClampNeg))) (upd t_kind v9_6.toNatClampNeg (0 : Int32)) (upd t_byHand v9_6.toNatClampNeg (0 : Int32)) (upd t_round v9_6.toNatClampNeg (-1 : Int32)) v8_7 _ _ hP hD hS _ (lv_sub hl [2, 3, 4, 5, 0] rfl) h
                refine lv_iconst (v := (0 : Int32)) hx hb dX9_points_174 (by decide) ?_
                refine lv_istore (lv' := [(8, .int (0 : Int32)), (0, .ref q_t), (1, .int v1), (5, .int v5), (7, .int v7)]) hx hb dX9_points_175 hl (by decide) rfl (fun ls hl => ?_)
                obtain ⟨n, h⟩ := h
                exact lp177 v1 v5 v7 n t_many t_px t_py t_pz t_strip t_kind t_byHand t_round (0 : Int32) _ _ hP hD hS _ (lv_sub hl [1, 2, 3, 4, 0] rfl) h
              · have h := h.2 c_
                refine lv_bipush (v := (-3 : Int32)) hx hb dX9_points_171 (by decide) ?_
                exact W.iret (v := (-3 : Int32)) hx hb hr (fun t ht hW => ⟨⟨(-3 : Int32), (t_many, t_px, t_py, t_pz, t_strip, t_kind, t_byHand, t_round), rfl, h, by rw [ht]; exact hP, hD⟩, hS.F ht⟩) hS.2.2 dX9_points_173
            have lp79 : ∀ (t_many : Nat → Int32) (t_px : Nat → Int32) (t_py : Nat → Int32) (t_pz : Nat → Int32) (t_strip : Nat → Int32) (t_kind : Nat → Int32) (t_byHand : Nat → Int32) (t_round : Nat → Int32) (v1 : Int32) (v5 : Int32) (v7 : Int32) (n79 : Nat) (v8 : Int32) (H : Heap) (locs : List Loc), va_P D vwCl [(q_t, .inr (9, [.ref q_t_lanes, .ref q_t_sizes, .ref q_t_items, .ref q_t_spare, .ref q_t_many, .ref q_t_px, .ref q_t_py, .ref q_t_pz, .ref q_t_strip, .ref q_t_kind, .ref q_t_byHand, .ref q_t_round, .ref q_t_lost, .ref q_t_shifts, .ref q_t_matrix, .ref q_t_right, .ref q_t_found, .ref q_t_high, .int t_highs, .ref q_t_near, .ref q_t_cells, .ref q_t_part, .ref q_t_before, .ref q_t_tape, .int t_taped, .int t_at, .int t_fault, .int t_steps, .ref q_t_what, .ref q_t_numbers])), (q_t_lanes, .inl (cy 0, (4, .inl t_lanes))), (q_t_sizes, .inl (cy 0, (4, .inl t_sizes))), (q_t_items, .inl (cy 0, (160, .inl t_items))), (q_t_lost, .inl (cy 1, (32, .inl t_lost))), (q_t_many, .inl (cy 0, (2, .inl t_many))), (q_t_px, .inl (cy 0, (200, .inl t_px))), (q_t_py, .inl (cy 0, (200, .inl t_py))), (q_t_pz, .inl (cy 0, (200, .inl t_pz))), (q_t_strip, .inl (cy 0, (200, .inl t_strip))), (q_t_kind, .inl (cy 0, (200, .inl t_kind))), (q_t_byHand, .inl (cy 0, (200, .inl t_byHand))), (q_t_round, .inl (cy 0, (200, .inl t_round)))] H → va_D A [(q_t, .inr (9, [.ref q_t_lanes, .ref q_t_sizes, .ref q_t_items, .ref q_t_spare, .ref q_t_many, .ref q_t_px, .ref q_t_py, .ref q_t_pz, .ref q_t_strip, .ref q_t_kind, .ref q_t_byHand, .ref q_t_round, .ref q_t_lost, .ref q_t_shifts, .ref q_t_matrix, .ref q_t_right, .ref q_t_found, .ref q_t_high, .int t_highs, .ref q_t_near, .ref q_t_cells, .ref q_t_part, .ref q_t_before, .ref q_t_tape, .int t_taped, .int t_at, .int t_fault, .int t_steps, .ref q_t_what, .ref q_t_numbers])), (q_t_lanes, .inl (cy 0, (4, .inl t_lanes))), (q_t_sizes, .inl (cy 0, (4, .inl t_sizes))), (q_t_items, .inl (cy 0, (160, .inl t_items))), (q_t_lost, .inl (cy 1, (32, .inl t_lost))), (q_t_many, .inl (cy 0, (2, .inl t_many))), (q_t_px, .inl (cy 0, (200, .inl t_px))), (q_t_py, .inl (cy 0, (200, .inl t_py))), (q_t_pz, .inl (cy 0, (200, .inl t_pz))), (q_t_strip, .inl (cy 0, (200, .inl t_strip))), (q_t_kind, .inl (cy 0, (200, .inl t_kind))), (q_t_byHand, .inl (cy 0, (200, .inl t_byHand))), (q_t_round, .inl (cy 0, (200, .inl t_round)))] → va_S A s.heap H locs → ∀ (ls : Array Slot), lv_has ls 10 [(0, .ref q_t), (1, .int v1), (5, .int v5), (7, .int v7), (8, .int v8)] → wp_X9_points_b79 (wp_X9_points_b157 Q t_items) Q t_items t_lost t_many t_px t_py t_pz t_strip t_kind t_byHand t_round v1 v5 v7 n79 v8 → W p l e (headSpec wsX9_points ({ frames := 2, cells := 0, slots := 0, locals := 50 } : Room)).room s m (([.ref q_t, .int a1, .int a2, .int a3, .int a4, .int a5] : List Value)).toArray below meth c H locs 0 0 (MQ below (va_Qi (fun (r : Int32) (u : (Nat → Int32) × (Nat → Int32) × (Nat → Int32) × (Nat → Int32) × (Nat → Int32) × (Nat → Int32) × (Nat → Int32) × (Nat → Int32)) => Q r u.1 u.2.1 u.2.2.1 u.2.2.2.1 u.2.2.2.2.1 u.2.2.2.2.2.1 u.2.2.2.2.2.2.1 u.2.2.2.2.2.2.2) (py_B D (fun (u : (Nat → Int32) × (Nat → Int32) × (Nat → Int32) × (Nat → Int32) × (Nat → Int32) × (Nat → Int32) × (Nat → Int32) × (Nat → Int32)) => [(q_t, .inr (9, [.ref q_t_lanes, .ref q_t_sizes, .ref q_t_items, .ref q_t_spare, .ref q_t_many, .ref q_t_px, .ref q_t_py, .ref q_t_pz, .ref q_t_strip, .ref q_t_kind, .ref q_t_byHand, .ref q_t_round, .ref q_t_lost, .ref q_t_shifts, .ref q_t_matrix, .ref q_t_right, .ref q_t_found, .ref q_t_high, .int t_highs, .ref q_t_near, .ref q_t_cells, .ref q_t_part, .ref q_t_before, .ref q_t_tape, .int t_taped, .int t_at, .int t_fault, .int t_steps, .ref q_t_what, .ref q_t_numbers])), (q_t_lanes, .inl (cy 0, (4, .inl t_lanes))), (q_t_sizes, .inl (cy 0, (4, .inl t_sizes))), (q_t_items, .inl (cy 0, (160, .inl t_items))), (q_t_lost, .inl (cy 1, (32, .inl t_lost))), (q_t_many, .inl (cy 0, (2, .inl u.1))), (q_t_px, .inl (cy 0, (200, .inl u.2.1))), (q_t_py, .inl (cy 0, (200, .inl u.2.2.1))), (q_t_pz, .inl (cy 0, (200, .inl u.2.2.2.1))), (q_t_strip, .inl (cy 0, (200, .inl u.2.2.2.2.1))), (q_t_kind, .inl (cy 0, (200, .inl u.2.2.2.2.2.1))), (q_t_byHand, .inl (cy 0, (200, .inl u.2.2.2.2.2.2.1))), (q_t_round, .inl (cy 0, (200, .inl u.2.2.2.2.2.2.2)))]) A) A) (([.ref q_t, .int a1, .int a2, .int a3, .int a4, .int a5] : List Value)).toArray s 0 0 A) (F0 m 79 ls []) := by
              intro t_many t_px t_py t_pz t_strip t_kind t_byHand t_round v1 v5 v7 n79
              induction n79 with
              | zero => intro v8 H locs hP hD hS ls hl h; exact False.elim h
              | succ n79 ih79 =>
                intro v8 H locs hP hD hS ls hl h
                have h : wp_X9_points_b79_f (wp_X9_points_b79 (wp_X9_points_b157 Q t_items) Q t_items t_lost t_many t_px t_py t_pz t_strip t_kind t_byHand t_round v1 v5 v7 n79) (wp_X9_points_b157 Q t_items) Q t_items t_lost t_many t_px t_py t_pz t_strip t_kind t_byHand t_round v1 v5 v7 v8 := h
                unfold wp_X9_points_b79_f at h
                refine lv_iload hx hb dX9_points_79 (lv_at hl 4 rfl) ?_
                refine lv_iload hx hb dX9_points_81 (lv_at hl 2 rfl) ?_
                refine lv_icmp_ge (tgt := 157) hx hb dX9_points_83 (by decide) (fun c_ => ?_) (fun c_ => ?_)
                · have h := h.1 c_
                  exact j157 t_many t_px t_py t_pz t_strip t_kind t_byHand t_round v1 v5 v7 _ _ hP hD hS _ (lv_sub hl [0, 1, 2, 3] rfl) h
                · have h := h.2 c_
                  refine lv_aload_n hx hb dX9_points_86 rfl (lv_at hl 0 rfl) ?_
                  refine lv_iload_n hx hb dX9_points_87 rfl (lv_at hl 1 rfl) ?_
                  refine lv_aload_n hx hb dX9_points_88 rfl (lv_at hl 0 rfl) ?_
                  refine va_get (D := D) (ci := 9) (C := RX9) (T := TX9) (N := 30) hx hb hts hi_X9 hown hK hP 0 rfl rfl 2 (by decide) (hts (.fieldLink RX9 16 "RayGroundModel" "items" "[I") (List.mem_of_getElem? (i := 3) rfl)) (fun _ h9 => h9) rfl dX9_points_89 ?_
                  refine lv_iload hx hb dX9_points_92 (lv_at hl 3 rfl) ?_
                  refine lv_iconst (v := (4 : Int32)) hx hb dX9_points_94 (by decide) ?_
                  refine lv_iload hx hb dX9_points_95 (lv_at hl 4 rfl) ?_
                  refine lv_imul hx hb dX9_points_97 ?_
                  refine lv_iadd hx hb dX9_points_98 ?_
                  refine py_iald hx hb hK hP 3 0 rfl rfl (k := (v7 + ((4 : Int32) * v8)).toNatClampNeg) rfl h.1 dX9_points_99 ?_
                  have h := h.2
                  refine lv_aload_n hx hb dX9_points_100 rfl (lv_at hl 0 rfl) ?_
                  refine va_get (D := D) (ci := 9) (C := RX9) (T := TX9) (N := 30) hx hb hts hi_X9 hown hK hP 0 rfl rfl 2 (by decide) (hts (.fieldLink RX9 16 "RayGroundModel" "items" "[I") (List.mem_of_getElem? (i := 3) rfl)) (fun _ h9 => h9) rfl dX9_points_101 ?_
                  refine lv_iload hx hb dX9_points_104 (lv_at hl 3 rfl) ?_
                  refine lv_iconst (v := (4 : Int32)) hx hb dX9_points_106 (by decide) ?_
                  refine lv_iload hx hb dX9_points_107 (lv_at hl 4 rfl) ?_
                  refine lv_imul hx hb dX9_points_109 ?_
                  refine lv_iadd hx hb dX9_points_110 ?_
                  refine lv_iconst (v := (1 : Int32)) hx hb dX9_points_111 (by decide) ?_
                  refine lv_iadd hx hb dX9_points_112 ?_
                  refine py_iald hx hb hK hP 3 0 rfl rfl (k := ((v7 + ((4 : Int32) * v8)) + (1 : Int32)).toNatClampNeg) rfl h.1 dX9_points_113 ?_
                  have h := h.2
                  refine lv_aload_n hx hb dX9_points_114 rfl (lv_at hl 0 rfl) ?_
                  refine va_get (D := D) (ci := 9) (C := RX9) (T := TX9) (N := 30) hx hb hts hi_X9 hown hK hP 0 rfl rfl 2 (by decide) (hts (.fieldLink RX9 16 "RayGroundModel" "items" "[I") (List.mem_of_getElem? (i := 3) rfl)) (fun _ h9 => h9) rfl dX9_points_115 ?_
                  refine lv_iload hx hb dX9_points_118 (lv_at hl 3 rfl) ?_
                  refine lv_iconst (v := (4 : Int32)) hx hb dX9_points_120 (by decide) ?_
                  refine lv_iload hx hb dX9_points_121 (lv_at hl 4 rfl) ?_
                  refine lv_imul hx hb dX9_points_123 ?_
                  refine lv_iadd hx hb dX9_points_124 ?_
                  refine lv_iconst (v := (2 : Int32)) hx hb dX9_points_125 (by decide) ?_
                  refine lv_iadd hx hb dX9_points_126 ?_
                  refine py_iald hx hb hK hP 3 0 rfl rfl (k := ((v7 + ((4 : Int32) * v8)) + (2 : Int32)).toNatClampNeg) rfl h.1 dX9_points_127 ?_
                  have h := h.2
                  refine lv_aload_n hx hb dX9_points_128 rfl (lv_at hl 0 rfl) ?_
                  refine va_get (D := D) (ci := 9) (C := RX9) (T := TX9) (N := 30) hx hb hts hi_X9 hown hK hP 0 rfl rfl 2 (by decide) (hts (.fieldLink RX9 16 "RayGroundModel" "items" "[I") (List.mem_of_getElem? (i := 3) rfl)) (fun _ h9 => h9) rfl dX9_points_129 ?_
                  refine lv_iload hx hb dX9_points_132 (lv_at hl 3 rfl) ?_
                  refine lv_iconst (v := (4 : Int32)) hx hb dX9_points_134 (by decide) ?_
                  refine lv_iload hx hb dX9_points_135 (lv_at hl 4 rfl) ?_
                  refine lv_imul hx hb dX9_points_137 ?_
                  refine lv_iadd hx hb dX9_points_138 ?_
                  refine lv_iconst (v := (3 : Int32)) hx hb dX9_points_139 (by decide) ?_
                  refine lv_iadd hx hb dX9_points_140 ?_
                  refine py_iald hx hb hK hP 3 0 rfl rfl (k := ((v7 + ((4 : Int32) * v8)) + (3 : Int32)).toNatClampNeg) rfl h.1 dX9_points_141 ?_
                  have h := h.2
                  refine py_ci (py_rVp (As := [.int v1, .int (t_items ((v7 + ((4 : Int32) * v8)).toNatClampNeg)), .int (t_items (((v7 + ((4 : Int32) * v8)) + (1 : Int32)).toNatClampNeg)), .int (t_items (((v7 + ((4 : Int32) * v8)) + (2 : Int32)).toNatClampNeg)), .int (t_items (((v7 + ((4 : Int32) * v8)) + (3 : Int32)).toNatClampNeg))]) ⟨hx, hb, hml, hown, hts⟩ hKK hP [0, 4] rfl 0 9 rfl rfl (c_X9_isPoint l D cy q_t_lanes q_t_sizes q_t_items q_t_spare q_t_many q_t_px q_t_py q_t_pz q_t_strip q_t_kind q_t_byHand q_t_round q_t_lost q_t_shifts q_t_matrix q_t_right q_t_found q_t_high q_t_near q_t_cells q_t_part q_t_before q_t_tape q_t_what q_t_numbers q_t t_highs t_taped t_at t_fault t_steps t_lost v1 (t_items ((v7 + ((4 : Int32) * v8)).toNatClampNeg)) (t_items (((v7 + ((4 : Int32) * v8)) + (1 : Int32)).toNatClampNeg)) (t_items (((v7 + ((4 : Int32) * v8)) + (2 : Int32)).toNatClampNeg)) (t_items (((v7 + ((4 : Int32) * v8)) + (3 : Int32)).toNatClampNeg)) _ h) (cwV 5 hts gX9_points_X9_isPoint rfl rfl rfl cdv_X9_isPoint ⟨Nat.le_of_ble_eq_true rfl, Nat.le_of_ble_eq_true rfl⟩) rfl hl.1 rfl (Nat.le_of_ble_eq_true rfl) ⟨Nat.zero_le _, Nat.zero_le _⟩ dX9_points_142) (fun r_8 h => ?_)
                  refine lv_if_ne (tgt := 151) hx hb dX9_points_145 (by decide) (fun c_ => ?_) (fun c_ => ?_)
                  · have h := h.2 c_
                    obtain ⟨v8_9, ev8_9⟩ : ∃ y : Int32, y = v8 + (1 : Int32) := ⟨_, rfl⟩
                    have h := h v8_9 ev8_9
                    refine lv_iinc (v := v8_9) (lv' := [(8, .int v8_9), (0, .ref q_t), (1, .int v1), (5, .int v5), (7, .int v7)]) hx hb dX9_points_151 hl (k := 4) rfl (by rw [ev8_9]; rfl) (by decide) rfl (fun ls hl => ?_)
                    refine lv_goto (tgt := 79) hx hb dX9_points_154 (by decide) ?_
                    exact ih79 v8_9 _ _ hP hD hS _ (lv_sub hl [1, 2, 3, 4, 0] rfl) h
                  · have h := h.1 c_
                    refine lv_bipush (v := (-2 : Int32)) hx hb dX9_points_148 (by decide) ?_
                    exact W.iret (v := (-2 : Int32)) hx hb hr (fun t ht hW => ⟨⟨(-2 : Int32), (t_many, t_px, t_py, t_pz, t_strip, t_kind, t_byHand, t_round), rfl, h, by rw [ht]; exact hP, hD⟩, hS.F ht⟩) hS.2.2 dX9_points_150
            refine lv_bipush (v := (40 : Int32)) hx hb dX9_points_67 (by decide) ?_
            refine lv_iload_n hx hb dX9_points_69 rfl (lv_at hl 3 rfl) ?_
            refine lv_imul hx hb dX9_points_70 ?_
            refine lv_iload hx hb dX9_points_71 (lv_at hl 5 rfl) ?_
            refine lv_iadd hx hb dX9_points_73 ?_
            refine lv_topi (fun v7_10 ev7_10 => ?_)
            have h := h v7_10 ev7_10
            refine lv_istore (lv' := [(7, .int v7_10), (6, .int r_4), (0, .ref q_t), (1, .int a1), (2, .int a2), (3, .int a3), (4, .int a4), (5, .int a5)]) hx hb dX9_points_74 hl (by decide) rfl (fun ls hl => ?_)
            refine lv_iconst (v := (0 : Int32)) hx hb dX9_points_76 (by decide) ?_
            refine lv_istore (lv' := [(8, .int (0 : Int32)), (7, .int v7_10), (6, .int r_4), (0, .ref q_t), (1, .int a1), (2, .int a2), (3, .int a3), (4, .int a4), (5, .int a5)]) hx hb dX9_points_77 hl (by decide) rfl (fun ls hl => ?_)
            obtain ⟨n, h⟩ := h
            exact lp79 t_many t_px t_py t_pz t_strip t_kind t_byHand t_round a1 a5 v7_10 n (0 : Int32) _ _ hP hD hS _ (lv_sub hl [3, 4, 8, 1, 0] rfl) h
          · have h := h.1 c_
            refine lv_bipush (v := (-13 : Int32)) hx hb dX9_points_64 (by decide) ?_
            exact W.iret (v := (-13 : Int32)) hx hb hr (fun t ht hW => ⟨⟨(-13 : Int32), (t_many, t_px, t_py, t_pz, t_strip, t_kind, t_byHand, t_round), rfl, h, by rw [ht]; exact hP, hD⟩, hS.F ht⟩) hS.2.2 dX9_points_66
        · have h := h.2 c_
          refine lv_iload hx hb dX9_points_43 (lv_at hl 0 rfl) ?_
          exact W.iret (v := r_4) hx hb hr (fun t ht hW => ⟨⟨r_4, (t_many, t_px, t_py, t_pz, t_strip, t_kind, t_byHand, t_round), rfl, h, by rw [ht]; exact hP, hD⟩, hS.F ht⟩) hS.2.2 dX9_points_45
      · have h := h.1 c_
        refine lv_iconst (v := (-1 : Int32)) hx hb dX9_points_28 (by decide) ?_
        exact W.iret (v := (-1 : Int32)) hx hb hr (fun t ht hW => ⟨⟨(-1 : Int32), (t_many, t_px, t_py, t_pz, t_strip, t_kind, t_byHand, t_round), rfl, h, by rw [ht]; exact hP, hD⟩, hS.F ht⟩) hS.2.2 dX9_points_29
set_option maxHeartbeats 4000000 in
set_option maxRecDepth 100000 in
theorem c_X9_heightOf (l : Launch) (D : va_G) (cy : Nat → ClassId) (q_t_lanes q_t_sizes q_t_items q_t_spare q_t_many q_t_px q_t_py q_t_pz q_t_strip q_t_kind q_t_byHand q_t_round q_t_lost q_t_shifts q_t_matrix q_t_right q_t_found q_t_high q_t_near q_t_cells q_t_part q_t_before q_t_tape q_t_what q_t_numbers q_t : Nat) (t_highs : Int32) (t_taped : Int32) (t_at : Int32) (t_fault : Int32) (t_steps : Int32) (t_pz : Nat → Int32) (t_strip : Nat → Int32) (t_shifts : Nat → Int32) (a1 : Int32) (a2 : Int32) (Q : Int32 → Prop) (h : wp_X9_heightOf t_pz t_strip t_shifts a1 a2 Q) : Met l yX9_heightOf wsX9_heightOf ({ frames := 0, cells := 0, slots := 0, locals := 0 } : Room) (py_Pp ([.ref q_t, .int a1, .int a2] : List Value) D cy [(q_t, .inr (9, [.ref q_t_lanes, .ref q_t_sizes, .ref q_t_items, .ref q_t_spare, .ref q_t_many, .ref q_t_px, .ref q_t_py, .ref q_t_pz, .ref q_t_strip, .ref q_t_kind, .ref q_t_byHand, .ref q_t_round, .ref q_t_lost, .ref q_t_shifts, .ref q_t_matrix, .ref q_t_right, .ref q_t_found, .ref q_t_high, .int t_highs, .ref q_t_near, .ref q_t_cells, .ref q_t_part, .ref q_t_before, .ref q_t_tape, .int t_taped, .int t_at, .int t_fault, .int t_steps, .ref q_t_what, .ref q_t_numbers])), (q_t_pz, .inl (cy 0, (200, .inl t_pz))), (q_t_strip, .inl (cy 0, (200, .inl t_strip))), (q_t_shifts, .inl (cy 0, (8, .inl t_shifts)))]) (vp_Si Q) 0 0 (fun _ => False) := by
  refine Met.ofW (cc := cX9_heightOf) (maxL := 3) (ret := (some .int)) (by decide) rfl ?_
  intro p e s m args below meth c s₁ B hml hv
  obtain ⟨rfl, hP, hKK⟩ := hv
  have hK := hKK.1
  have hN := hKK.2
  have hx := B.exec
  have hb := B.bytes
  have hr := B.returns
  have hts := atoms_spec (ws := wsX9_heightOf) B.pre
  have hown : s.vm.findClass RX9 = some m.cls := findClass_of_methodNamed B.named
  have hlocks := B.notSynchronized
  have hi_X9 : ∀ w ∈ wsX90, w ∈ wsX9_heightOf := fun w h => List.mem_cons_of_mem _ (List.mem_append_right _ (h))
  have hl := lv_entry ([.ref q_t, .int a1, .int a2] : List Value) (n := 3) (Nat.le_of_ble_eq_true rfl)
  rw [lg_entry_eq]
  generalize (lg_sl ([.ref q_t, .int a1, .int a2] : List Value) ++ List.replicate (3 - (lg_sl ([.ref q_t, .int a1, .int a2] : List Value)).length) Slot.unset).toArray = ls at hl ⊢
  have hl : lv_has ls 3 [(0, .ref q_t), (1, .int a1), (2, .int a2)] := hl
  unfold wp_X9_heightOf at h
  refine lv_aload_n hx hb dX9_heightOf_0 rfl (lv_at hl 0 rfl) ?_
  refine va_get (D := D) (ci := 9) (C := RX9) (T := TX9) (N := 30) hx hb hts hi_X9 hown hK hP 0 rfl rfl 7 (by decide) (hts (.fieldLink RX9 31 "RayGroundModel" "pz" "[I") (List.mem_of_getElem? (i := 1) rfl)) (fun _ h9 => h9) rfl dX9_heightOf_1 ?_
  refine lv_iload_n hx hb dX9_heightOf_4 rfl (lv_at hl 2 rfl) ?_
  refine py_iald hx hb hK hP 1 0 rfl rfl (k := a2.toNatClampNeg) rfl h.1 dX9_heightOf_5 ?_
  have h := h.2
  refine lv_aload_n hx hb dX9_heightOf_6 rfl (lv_at hl 0 rfl) ?_
  refine va_get (D := D) (ci := 9) (C := RX9) (T := TX9) (N := 30) hx hb hts hi_X9 hown hK hP 0 rfl rfl 13 (by decide) (hts (.fieldLink RX9 50 "RayGroundModel" "shifts" "[I") (List.mem_of_getElem? (i := 2) rfl)) (fun _ h9 => h9) rfl dX9_heightOf_7 ?_
  refine lv_iconst (v := (4 : Int32)) hx hb dX9_heightOf_10 (by decide) ?_
  refine lv_iload_n hx hb dX9_heightOf_11 rfl (lv_at hl 1 rfl) ?_
  refine lv_imul hx hb dX9_heightOf_12 ?_
  refine lv_aload_n hx hb dX9_heightOf_13 rfl (lv_at hl 0 rfl) ?_
  refine va_get (D := D) (ci := 9) (C := RX9) (T := TX9) (N := 30) hx hb hts hi_X9 hown hK hP 0 rfl rfl 8 (by decide) (hts (.fieldLink RX9 34 "RayGroundModel" "strip" "[I") (List.mem_of_getElem? (i := 3) rfl)) (fun _ h9 => h9) rfl dX9_heightOf_14 ?_
  refine lv_iload_n hx hb dX9_heightOf_17 rfl (lv_at hl 2 rfl) ?_
  refine py_iald hx hb hK hP 2 0 rfl rfl (k := a2.toNatClampNeg) rfl h.1 dX9_heightOf_18 ?_
  have h := h.2
  refine lv_iadd hx hb dX9_heightOf_19 ?_
  refine py_iald hx hb hK hP 3 0 rfl rfl (k := (((4 : Int32) * a1) + (t_strip a2.toNatClampNeg)).toNatClampNeg) rfl h.1 dX9_heightOf_20 ?_
  have h := h.2
  refine lv_iadd hx hb dX9_heightOf_21 ?_
  exact W.iret (v := ((t_pz a2.toNatClampNeg) + (t_shifts ((((4 : Int32) * a1) + (t_strip a2.toNatClampNeg)).toNatClampNeg)))) hx hb hr (fun t ht hW => ⟨((t_pz a2.toNatClampNeg) + (t_shifts ((((4 : Int32) * a1) + (t_strip a2.toNatClampNeg)).toNatClampNeg))), rfl, h, ht⟩) (fun _ hq => by cases hq) dX9_heightOf_22
set_option maxHeartbeats 4000000 in
set_option maxRecDepth 100000 in
theorem c_X9_endOf (l : Launch) (D : va_G) (cy : Nat → ClassId) (q_t_lanes q_t_sizes q_t_items q_t_spare q_t_many q_t_px q_t_py q_t_pz q_t_strip q_t_kind q_t_byHand q_t_round q_t_lost q_t_shifts q_t_matrix q_t_right q_t_found q_t_high q_t_near q_t_cells q_t_part q_t_before q_t_tape q_t_what q_t_numbers q_t : Nat) (t_highs : Int32) (t_taped : Int32) (t_at : Int32) (t_fault : Int32) (t_steps : Int32) (t_many : Nat → Int32) (a1 : Int32) (Q : Int32 → Prop) (h : wp_X9_endOf t_many a1 Q) : Met l yX9_endOf wsX9_endOf ({ frames := 0, cells := 0, slots := 0, locals := 0 } : Room) (py_Pp ([.ref q_t, .int a1] : List Value) D cy [(q_t, .inr (9, [.ref q_t_lanes, .ref q_t_sizes, .ref q_t_items, .ref q_t_spare, .ref q_t_many, .ref q_t_px, .ref q_t_py, .ref q_t_pz, .ref q_t_strip, .ref q_t_kind, .ref q_t_byHand, .ref q_t_round, .ref q_t_lost, .ref q_t_shifts, .ref q_t_matrix, .ref q_t_right, .ref q_t_found, .ref q_t_high, .int t_highs, .ref q_t_near, .ref q_t_cells, .ref q_t_part, .ref q_t_before, .ref q_t_tape, .int t_taped, .int t_at, .int t_fault, .int t_steps, .ref q_t_what, .ref q_t_numbers])), (q_t_many, .inl (cy 0, (2, .inl t_many)))]) (vp_Si Q) 0 0 (fun _ => False) := by
  refine Met.ofW (cc := cX9_endOf) (maxL := 2) (ret := (some .int)) (by decide) rfl ?_
  intro p e s m args below meth c s₁ B hml hv
  obtain ⟨rfl, hP, hKK⟩ := hv
  have hK := hKK.1
  have hN := hKK.2
  have hx := B.exec
  have hb := B.bytes
  have hr := B.returns
  have hts := atoms_spec (ws := wsX9_endOf) B.pre
  have hown : s.vm.findClass RX9 = some m.cls := findClass_of_methodNamed B.named
  have hlocks := B.notSynchronized
  have hi_X9 : ∀ w ∈ wsX90, w ∈ wsX9_endOf := fun w h => List.mem_cons_of_mem _ (List.mem_append_right _ (h))
  have hl := lv_entry ([.ref q_t, .int a1] : List Value) (n := 2) (Nat.le_of_ble_eq_true rfl)
  rw [lg_entry_eq]
  generalize (lg_sl ([.ref q_t, .int a1] : List Value) ++ List.replicate (2 - (lg_sl ([.ref q_t, .int a1] : List Value)).length) Slot.unset).toArray = ls at hl ⊢
  have hl : lv_has ls 2 [(0, .ref q_t), (1, .int a1)] := hl
  unfold wp_X9_endOf at h
  refine lv_bipush (v := (100 : Int32)) hx hb dX9_endOf_0 (by decide) ?_
  refine lv_iload_n hx hb dX9_endOf_2 rfl (lv_at hl 1 rfl) ?_
  refine lv_imul hx hb dX9_endOf_3 ?_
  refine lv_aload_n hx hb dX9_endOf_4 rfl (lv_at hl 0 rfl) ?_
  refine va_get (D := D) (ci := 9) (C := RX9) (T := TX9) (N := 30) hx hb hts hi_X9 hown hK hP 0 rfl rfl 4 (by decide) (hts (.fieldLink RX9 22 "RayGroundModel" "many" "[I") (List.mem_of_getElem? (i := 1) rfl)) (fun _ h9 => h9) rfl dX9_endOf_5 ?_
  refine lv_iload_n hx hb dX9_endOf_8 rfl (lv_at hl 1 rfl) ?_
  refine py_iald hx hb hK hP 1 0 rfl rfl (k := a1.toNatClampNeg) rfl h.1 dX9_endOf_9 ?_
  have h := h.2
  refine lv_iadd hx hb dX9_endOf_10 ?_
  exact W.iret (v := (((100 : Int32) * a1) + (t_many a1.toNatClampNeg))) hx hb hr (fun t ht hW => ⟨(((100 : Int32) * a1) + (t_many a1.toNatClampNeg)), rfl, h, ht⟩) (fun _ hq => by cases hq) dX9_endOf_11
set_option maxHeartbeats 4000000 in
set_option maxRecDepth 100000 in
theorem c_X9_told (l : Launch) (D : va_G) (cy : Nat → ClassId) (q_t_lanes q_t_sizes q_t_items q_t_spare q_t_many q_t_px q_t_py q_t_pz q_t_strip q_t_kind q_t_byHand q_t_round q_t_lost q_t_shifts q_t_matrix q_t_right q_t_found q_t_high q_t_near q_t_cells q_t_part q_t_before q_t_tape q_t_what q_t_numbers q_t : Nat) (t_highs : Int32) (t_taped : Int32) (t_at : Int32) (t_fault : Int32) (t_steps : Int32) (t_many : Nat → Int32) (t_kind : Nat → Int32) (t_round : Nat → Int32) (t_byHand : Nat → Int32) (t_strip : Nat → Int32) (t_pz : Nat → Int32) (t_shifts : Nat → Int32) (t_py : Nat → Int32) (t_px : Nat → Int32) (a1 : Int32) (a2 : Int32) (a3 : Int32) (Q : Int32 → Prop) (h : wp_X9_told t_many t_kind t_round t_byHand t_strip t_pz t_shifts t_py t_px a1 a2 a3 Q) : Met l yX9_told wsX9_told ({ frames := 2, cells := 0, slots := 0, locals := 45 } : Room) (py_Pp ([.ref q_t, .int a1, .int a2, .int a3] : List Value) D cy [(q_t, .inr (9, [.ref q_t_lanes, .ref q_t_sizes, .ref q_t_items, .ref q_t_spare, .ref q_t_many, .ref q_t_px, .ref q_t_py, .ref q_t_pz, .ref q_t_strip, .ref q_t_kind, .ref q_t_byHand, .ref q_t_round, .ref q_t_lost, .ref q_t_shifts, .ref q_t_matrix, .ref q_t_right, .ref q_t_found, .ref q_t_high, .int t_highs, .ref q_t_near, .ref q_t_cells, .ref q_t_part, .ref q_t_before, .ref q_t_tape, .int t_taped, .int t_at, .int t_fault, .int t_steps, .ref q_t_what, .ref q_t_numbers])), (q_t_many, .inl (cy 0, (2, .inl t_many))), (q_t_kind, .inl (cy 0, (200, .inl t_kind))), (q_t_round, .inl (cy 0, (200, .inl t_round))), (q_t_byHand, .inl (cy 0, (200, .inl t_byHand))), (q_t_strip, .inl (cy 0, (200, .inl t_strip))), (q_t_pz, .inl (cy 0, (200, .inl t_pz))), (q_t_shifts, .inl (cy 0, (8, .inl t_shifts))), (q_t_py, .inl (cy 0, (200, .inl t_py))), (q_t_px, .inl (cy 0, (200, .inl t_px)))]) (vp_Si Q) 0 0 (fun _ => False) := by
  refine Met.ofW (cc := cX9_told) (maxL := 5) (ret := (some .int)) (by decide) rfl ?_
  intro p e s m args below meth c s₁ B hml hv
  obtain ⟨rfl, hP, hKK⟩ := hv
  have hK := hKK.1
  have hN := hKK.2
  have hx := B.exec
  have hb := B.bytes
  have hr := B.returns
  have hts := atoms_spec (ws := wsX9_told) B.pre
  have hown : s.vm.findClass RX9 = some m.cls := findClass_of_methodNamed B.named
  have hlocks := B.notSynchronized
  have hi_X9 : ∀ w ∈ wsX90, w ∈ wsX9_told := fun w h => List.mem_cons_of_mem _ (List.mem_append_right _ (h))
  have hl := lv_entry ([.ref q_t, .int a1, .int a2, .int a3] : List Value) (n := 5) (Nat.le_of_ble_eq_true rfl)
  rw [lg_entry_eq]
  generalize (lg_sl ([.ref q_t, .int a1, .int a2, .int a3] : List Value) ++ List.replicate (5 - (lg_sl ([.ref q_t, .int a1, .int a2, .int a3] : List Value)).length) Slot.unset).toArray = ls at hl ⊢
  have hl : lv_has ls 5 [(0, .ref q_t), (1, .int a1), (2, .int a2), (3, .int a3)] := hl
  unfold wp_X9_told at h
  refine lv_iload_n hx hb dX9_told_0 rfl (lv_at hl 1 rfl) ?_
  refine py_ci (py_rSp (As := [.int a1]) ⟨hx, hb, hml, hown, hts⟩ hKK hP [] rfl (c_X9_isYear l D cy a1 _ h) (va_cwS 1 hts gX9_told_X9_isYear rfl rfl rfl cd_X9_isYear ⟨Nat.le_of_ble_eq_true rfl, Nat.le_of_ble_eq_true rfl⟩) rfl hl.1 rfl (Nat.le_of_ble_eq_true rfl) ⟨Nat.zero_le _, Nat.zero_le _⟩ dX9_told_1) (fun r_1 h => ?_)
  refine lv_if_eq (tgt := 37) hx hb dX9_told_4 (by decide) (fun c_ => ?_) (fun c_ => ?_)
  · have h := h.1 c_
    refine lv_sipush (v := (-10001 : Int32)) hx hb dX9_told_37 (by decide) ?_
    exact W.iret (v := (-10001 : Int32)) hx hb hr (fun t ht hW => ⟨(-10001 : Int32), rfl, h, ht⟩) (fun _ hq => by cases hq) dX9_told_40
  · have h := h.2 c_
    refine lv_iload_n hx hb dX9_told_7 rfl (lv_at hl 2 rfl) ?_
    refine lv_i2l (v := (a2.toInt64)) hx hb dX9_told_8 rfl ?_
    refine lv_lconst (v := (0 : Int64)) hx hb dX9_told_9 (by decide) ?_
    refine lv_aload_n hx hb dX9_told_10 rfl (lv_at hl 0 rfl) ?_
    refine va_get (D := D) (ci := 9) (C := RX9) (T := TX9) (N := 30) hx hb hts hi_X9 hown hK hP 0 rfl rfl 4 (by decide) (hts (.fieldLink RX9 22 "RayGroundModel" "many" "[I") (List.mem_of_getElem? (i := 1) rfl)) (fun _ h9 => h9) rfl dX9_told_11 ?_
    refine lv_iload_n hx hb dX9_told_14 rfl (lv_at hl 1 rfl) ?_
    refine py_iald hx hb hK hP 1 0 rfl rfl (k := a1.toNatClampNeg) rfl h.1 dX9_told_15 ?_
    have h := h.2
    refine lv_iconst (v := (1 : Int32)) hx hb dX9_told_16 (by decide) ?_
    refine lv_isub hx hb dX9_told_17 ?_
    refine lv_i2l (v := (((t_many a1.toNatClampNeg) - (1 : Int32)).toInt64)) hx hb dX9_told_18 rfl ?_
    refine py_ci (py_rSp (As := [.long (a2.toInt64), .long (0 : Int64), .long (((t_many a1.toNatClampNeg) - (1 : Int32)).toInt64)]) ⟨hx, hb, hml, hown, hts⟩ hKK hP [] rfl (c_X9_in l D cy (a2.toInt64) (0 : Int64) (((t_many a1.toNatClampNeg) - (1 : Int32)).toInt64) _ h) (va_cwS 3 hts gX9_told_X9_in rfl rfl rfl cd_X9_in ⟨Nat.le_of_ble_eq_true rfl, Nat.le_of_ble_eq_true rfl⟩) rfl hl.1 rfl (Nat.le_of_ble_eq_true rfl) ⟨Nat.zero_le _, Nat.zero_le _⟩ dX9_told_19) (fun r_2 h => ?_)
    refine lv_if_eq (tgt := 37) hx hb dX9_told_22 (by decide) (fun c_ => ?_) (fun c_ => ?_)
    · have h := h.1 c_
      refine lv_sipush (v := (-10001 : Int32)) hx hb dX9_told_37 (by decide) ?_
      exact W.iret (v := (-10001 : Int32)) hx hb hr (fun t ht hW => ⟨(-10001 : Int32), rfl, h, ht⟩) (fun _ hq => by cases hq) dX9_told_40
    · have h := h.2 c_
      refine lv_iload_n hx hb dX9_told_25 rfl (lv_at hl 3 rfl) ?_
      refine lv_i2l (v := (a3.toInt64)) hx hb dX9_told_26 rfl ?_
      refine lv_lconst (v := (0 : Int64)) hx hb dX9_told_27 (by decide) ?_
      refine lv_ldc2 (v := (6 : Int64)) hx hb hown (hts (.constantLong RX9 126 (6)) (List.mem_of_getElem? (i := 2) rfl)) dX9_told_28 ?_
      refine py_ci (py_rSp (As := [.long (a3.toInt64), .long (0 : Int64), .long (6 : Int64)]) ⟨hx, hb, hml, hown, hts⟩ hKK hP [] rfl (c_X9_in l D cy (a3.toInt64) (0 : Int64) (6 : Int64) _ h) (va_cwS 3 hts gX9_told_X9_in rfl rfl rfl cd_X9_in ⟨Nat.le_of_ble_eq_true rfl, Nat.le_of_ble_eq_true rfl⟩) rfl hl.1 rfl (Nat.le_of_ble_eq_true rfl) ⟨Nat.zero_le _, Nat.zero_le _⟩ dX9_told_31) (fun r_3 h => ?_)
      refine lv_if_ne (tgt := 41) hx hb dX9_told_34 (by decide) (fun c_ => ?_) (fun c_ => ?_)
      · have h := h.2 c_
        refine lv_bipush (v := (100 : Int32)) hx hb dX9_told_41 (by decide) ?_
        refine lv_iload_n hx hb dX9_told_43 rfl (lv_at hl 1 rfl) ?_
        refine lv_imul hx hb dX9_told_44 ?_
        refine lv_iload_n hx hb dX9_told_45 rfl (lv_at hl 2 rfl) ?_
        refine lv_iadd hx hb dX9_told_46 ?_
        refine lv_topi (fun v4_4 ev4_4 => ?_)
        have h := h v4_4 ev4_4
        refine lv_istore (lv' := [(4, .int v4_4), (0, .ref q_t), (1, .int a1), (2, .int a2), (3, .int a3)]) hx hb dX9_told_47 hl (by decide) rfl (fun ls hl => ?_)
        refine lv_iload_n hx hb dX9_told_49 rfl (lv_at hl 4 rfl) ?_
        by_cases c_ : a3 = (0 : Int32)
        · have h := h.1 c_
          refine lv_tableIn (off := 38) (tgt := 88) hx hb dX9_told_50 (by rw [c_]; decide) (by rw [c_]; decide) (by rw [c_]; rfl) (by decide) ?_
          refine lv_aload_n hx hb dX9_told_88 rfl (lv_at hl 1 rfl) ?_
          refine va_get (D := D) (ci := 9) (C := RX9) (T := TX9) (N := 30) hx hb hts hi_X9 hown hK hP 0 rfl rfl 5 (by decide) (hts (.fieldLink RX9 25 "RayGroundModel" "px" "[I") (List.mem_of_getElem? (i := 3) rfl)) (fun _ h9 => h9) rfl dX9_told_89 ?_
          refine lv_iload hx hb dX9_told_92 (lv_at hl 0 rfl) ?_
          refine py_iald hx hb hK hP 9 0 rfl rfl (k := v4_4.toNatClampNeg) rfl h.1 dX9_told_94 ?_
          have h := h.2
          exact W.iret (v := (t_px v4_4.toNatClampNeg)) hx hb hr (fun t ht hW => ⟨(t_px v4_4.toNatClampNeg), rfl, h, ht⟩) (fun _ hq => by cases hq) dX9_told_95
        have cn0 := c_
        have h := h.2 c_
        by_cases c_ : a3 = (1 : Int32)
        · have h := h.1 c_
          refine lv_tableIn (off := 46) (tgt := 96) hx hb dX9_told_50 (by rw [c_]; decide) (by rw [c_]; decide) (by rw [c_]; rfl) (by decide) ?_
          refine lv_aload_n hx hb dX9_told_96 rfl (lv_at hl 1 rfl) ?_
          refine va_get (D := D) (ci := 9) (C := RX9) (T := TX9) (N := 30) hx hb hts hi_X9 hown hK hP 0 rfl rfl 6 (by decide) (hts (.fieldLink RX9 28 "RayGroundModel" "py" "[I") (List.mem_of_getElem? (i := 4) rfl)) (fun _ h9 => h9) rfl dX9_told_97 ?_
          refine lv_iload hx hb dX9_told_100 (lv_at hl 0 rfl) ?_
          refine py_iald hx hb hK hP 8 0 rfl rfl (k := v4_4.toNatClampNeg) rfl h.1 dX9_told_102 ?_
          have h := h.2
          exact W.iret (v := (t_py v4_4.toNatClampNeg)) hx hb hr (fun t ht hW => ⟨(t_py v4_4.toNatClampNeg), rfl, h, ht⟩) (fun _ hq => by cases hq) dX9_told_103
        have cn1 := c_
        have h := h.2 c_
        by_cases c_ : a3 = (2 : Int32)
        · have h := h.1 c_
          refine lv_tableIn (off := 54) (tgt := 104) hx hb dX9_told_50 (by rw [c_]; decide) (by rw [c_]; decide) (by rw [c_]; rfl) (by decide) ?_
          refine lv_aload_n hx hb dX9_told_104 rfl (lv_at hl 1 rfl) ?_
          refine lv_iload_n hx hb dX9_told_105 rfl (lv_at hl 2 rfl) ?_
          refine lv_iload hx hb dX9_told_106 (lv_at hl 0 rfl) ?_
          refine py_ci (py_rVp (As := [.int a1, .int v4_4]) ⟨hx, hb, hml, hown, hts⟩ hKK hP [0, 6, 5, 7] rfl 0 9 rfl rfl (c_X9_heightOf l D cy q_t_lanes q_t_sizes q_t_items q_t_spare q_t_many q_t_px q_t_py q_t_pz q_t_strip q_t_kind q_t_byHand q_t_round q_t_lost q_t_shifts q_t_matrix q_t_right q_t_found q_t_high q_t_near q_t_cells q_t_part q_t_before q_t_tape q_t_what q_t_numbers q_t t_highs t_taped t_at t_fault t_steps t_pz t_strip t_shifts a1 v4_4 _ h) (cwV 2 hts gX9_told_X9_heightOf rfl rfl rfl cdv_X9_heightOf ⟨Nat.le_of_ble_eq_true rfl, Nat.le_of_ble_eq_true rfl⟩) rfl hl.1 rfl (Nat.le_of_ble_eq_true rfl) ⟨Nat.zero_le _, Nat.zero_le _⟩ dX9_told_108) (fun r_5 h => ?_)
          exact W.iret (v := r_5) hx hb hr (fun t ht hW => ⟨r_5, rfl, h, ht⟩) (fun _ hq => by cases hq) dX9_told_111
        have cn2 := c_
        have h := h.2 c_
        by_cases c_ : a3 = (3 : Int32)
        · have h := h.1 c_
          refine lv_tableIn (off := 62) (tgt := 112) hx hb dX9_told_50 (by rw [c_]; decide) (by rw [c_]; decide) (by rw [c_]; rfl) (by decide) ?_
          refine lv_aload_n hx hb dX9_told_112 rfl (lv_at hl 1 rfl) ?_
          refine va_get (D := D) (ci := 9) (C := RX9) (T := TX9) (N := 30) hx hb hts hi_X9 hown hK hP 0 rfl rfl 8 (by decide) (hts (.fieldLink RX9 34 "RayGroundModel" "strip" "[I") (List.mem_of_getElem? (i := 5) rfl)) (fun _ h9 => h9) rfl dX9_told_113 ?_
          refine lv_iload hx hb dX9_told_116 (lv_at hl 0 rfl) ?_
          refine py_iald hx hb hK hP 5 0 rfl rfl (k := v4_4.toNatClampNeg) rfl h.1 dX9_told_118 ?_
          have h := h.2
          exact W.iret (v := (t_strip v4_4.toNatClampNeg)) hx hb hr (fun t ht hW => ⟨(t_strip v4_4.toNatClampNeg), rfl, h, ht⟩) (fun _ hq => by cases hq) dX9_told_119
        have cn3 := c_
        have h := h.2 c_
        by_cases c_ : a3 = (4 : Int32)
        · have h := h.1 c_
          refine lv_tableIn (off := 70) (tgt := 120) hx hb dX9_told_50 (by rw [c_]; decide) (by rw [c_]; decide) (by rw [c_]; rfl) (by decide) ?_
          refine lv_aload_n hx hb dX9_told_120 rfl (lv_at hl 1 rfl) ?_
          refine va_get (D := D) (ci := 9) (C := RX9) (T := TX9) (N := 30) hx hb hts hi_X9 hown hK hP 0 rfl rfl 9 (by decide) (hts (.fieldLink RX9 37 "RayGroundModel" "kind" "[I") (List.mem_of_getElem? (i := 6) rfl)) (fun _ h9 => h9) rfl dX9_told_121 ?_
          refine lv_iload hx hb dX9_told_124 (lv_at hl 0 rfl) ?_
          refine py_iald hx hb hK hP 2 0 rfl rfl (k := v4_4.toNatClampNeg) rfl h.1 dX9_told_126 ?_
          have h := h.2
          exact W.iret (v := (t_kind v4_4.toNatClampNeg)) hx hb hr (fun t ht hW => ⟨(t_kind v4_4.toNatClampNeg), rfl, h, ht⟩) (fun _ hq => by cases hq) dX9_told_127
        have cn4 := c_
        have h := h.2 c_
        by_cases c_ : a3 = (5 : Int32)
        · have h := h.1 c_
          refine lv_tableIn (off := 78) (tgt := 128) hx hb dX9_told_50 (by rw [c_]; decide) (by rw [c_]; decide) (by rw [c_]; rfl) (by decide) ?_
          refine lv_aload_n hx hb dX9_told_128 rfl (lv_at hl 1 rfl) ?_
          refine va_get (D := D) (ci := 9) (C := RX9) (T := TX9) (N := 30) hx hb hts hi_X9 hown hK hP 0 rfl rfl 10 (by decide) (hts (.fieldLink RX9 40 "RayGroundModel" "byHand" "[I") (List.mem_of_getElem? (i := 7) rfl)) (fun _ h9 => h9) rfl dX9_told_129 ?_
          refine lv_iload hx hb dX9_told_132 (lv_at hl 0 rfl) ?_
          refine py_iald hx hb hK hP 4 0 rfl rfl (k := v4_4.toNatClampNeg) rfl h.1 dX9_told_134 ?_
          have h := h.2
          exact W.iret (v := (t_byHand v4_4.toNatClampNeg)) hx hb hr (fun t ht hW => ⟨(t_byHand v4_4.toNatClampNeg), rfl, h, ht⟩) (fun _ hq => by cases hq) dX9_told_135
        have cn5 := c_
        have h := h.2 c_
        refine lv_tableOut (tgt := 136) hx hb dX9_told_50 (py_tab5 cn0 cn1 cn2 cn3 cn4 cn5) (by decide) ?_
        refine lv_aload_n hx hb dX9_told_136 rfl (lv_at hl 1 rfl) ?_
        refine va_get (D := D) (ci := 9) (C := RX9) (T := TX9) (N := 30) hx hb hts hi_X9 hown hK hP 0 rfl rfl 9 (by decide) (hts (.fieldLink RX9 37 "RayGroundModel" "kind" "[I") (List.mem_of_getElem? (i := 6) rfl)) (fun _ h9 => h9) rfl dX9_told_137 ?_
        refine lv_iload hx hb dX9_told_140 (lv_at hl 0 rfl) ?_
        refine py_iald hx hb hK hP 2 0 rfl rfl (k := v4_4.toNatClampNeg) rfl h.1 dX9_told_142 ?_
        have h := h.2
        refine lv_iconst (v := (1 : Int32)) hx hb dX9_told_143 (by decide) ?_
        refine lv_icmp_ne (tgt := 157) hx hb dX9_told_144 (by decide) (fun c_ => ?_) (fun c_ => ?_)
        · have h := h.2 c_
          refine lv_iconst (v := (-1 : Int32)) hx hb dX9_told_157 (by decide) ?_
          exact W.iret (v := (-1 : Int32)) hx hb hr (fun t ht hW => ⟨(-1 : Int32), rfl, h, ht⟩) (fun _ hq => by cases hq) dX9_told_158
        · have h := h.1 c_
          refine lv_aload_n hx hb dX9_told_147 rfl (lv_at hl 1 rfl) ?_
          refine va_get (D := D) (ci := 9) (C := RX9) (T := TX9) (N := 30) hx hb hts hi_X9 hown hK hP 0 rfl rfl 11 (by decide) (hts (.fieldLink RX9 43 "RayGroundModel" "round" "[I") (List.mem_of_getElem? (i := 8) rfl)) (fun _ h9 => h9) rfl dX9_told_148 ?_
          refine lv_iload hx hb dX9_told_151 (lv_at hl 0 rfl) ?_
          refine py_iald hx hb hK hP 3 0 rfl rfl (k := v4_4.toNatClampNeg) rfl h.1 dX9_told_153 ?_
          have h := h.2
          refine lv_goto (tgt := 158) hx hb dX9_told_154 (by decide) ?_
          exact W.iret (v := (t_round v4_4.toNatClampNeg)) hx hb hr (fun t ht hW => ⟨(t_round v4_4.toNatClampNeg), rfl, h, ht⟩) (fun _ hq => by cases hq) dX9_told_158
      · have h := h.1 c_
        refine lv_sipush (v := (-10001 : Int32)) hx hb dX9_told_37 (by decide) ?_
        exact W.iret (v := (-10001 : Int32)) hx hb hr (fun t ht hW => ⟨(-10001 : Int32), rfl, h, ht⟩) (fun _ hq => by cases hq) dX9_told_40
set_option maxHeartbeats 4000000 in
set_option maxRecDepth 100000 in
theorem c_X9_lose (l : Launch) (D : va_G) (cy : Nat → ClassId) (q_t_lanes q_t_sizes q_t_items q_t_spare q_t_many q_t_px q_t_py q_t_pz q_t_strip q_t_kind q_t_byHand q_t_round q_t_lost q_t_shifts q_t_matrix q_t_right q_t_found q_t_high q_t_near q_t_cells q_t_part q_t_before q_t_tape q_t_what q_t_numbers q_t : Nat) (t_highs : Int32) (t_taped : Int32) (t_at : Int32) (t_fault : Int32) (t_steps : Int32) (t_lost : Nat → Int32) (t_many : Nat → Int32) (t_px : Nat → Int32) (t_py : Nat → Int32) (t_pz : Nat → Int32) (t_strip : Nat → Int32) (t_kind : Nat → Int32) (t_byHand : Nat → Int32) (t_round : Nat → Int32) (a1 : Int32) (a2 : Int32) (sz : Nat) (Q : Int32 → (Nat → Int32) → (Nat → Int32) → (Nat → Int32) → (Nat → Int32) → (Nat → Int32) → (Nat → Int32) → (Nat → Int32) → (Nat → Int32) → (Nat → Int32) → Prop) (h : wp_X9_lose t_lost t_many t_px t_py t_pz t_strip t_kind t_byHand t_round a1 a2 Q) : Met l yX9_lose wsX9_lose ({ frames := 2, cells := 0, slots := 0, locals := 45 } : Room) (py_Pw ([.ref q_t, .int a1, .int a2] : List Value) D cy [(q_t, .inr (9, [.ref q_t_lanes, .ref q_t_sizes, .ref q_t_items, .ref q_t_spare, .ref q_t_many, .ref q_t_px, .ref q_t_py, .ref q_t_pz, .ref q_t_strip, .ref q_t_kind, .ref q_t_byHand, .ref q_t_round, .ref q_t_lost, .ref q_t_shifts, .ref q_t_matrix, .ref q_t_right, .ref q_t_found, .ref q_t_high, .int t_highs, .ref q_t_near, .ref q_t_cells, .ref q_t_part, .ref q_t_before, .ref q_t_tape, .int t_taped, .int t_at, .int t_fault, .int t_steps, .ref q_t_what, .ref q_t_numbers])), (q_t_lost, .inl (cy 1, (32, .inl t_lost))), (q_t_many, .inl (cy 0, (2, .inl t_many))), (q_t_px, .inl (cy 0, (200, .inl t_px))), (q_t_py, .inl (cy 0, (200, .inl t_py))), (q_t_pz, .inl (cy 0, (200, .inl t_pz))), (q_t_strip, .inl (cy 0, (200, .inl t_strip))), (q_t_kind, .inl (cy 0, (200, .inl t_kind))), (q_t_byHand, .inl (cy 0, (200, .inl t_byHand))), (q_t_round, .inl (cy 0, (200, .inl t_round)))] sz) (va_Qi (fun (r : Int32) (u : (Nat → Int32) × (Nat → Int32) × (Nat → Int32) × (Nat → Int32) × (Nat → Int32) × (Nat → Int32) × (Nat → Int32) × (Nat → Int32) × (Nat → Int32)) => Q r u.1 u.2.1 u.2.2.1 u.2.2.2.1 u.2.2.2.2.1 u.2.2.2.2.2.1 u.2.2.2.2.2.2.1 u.2.2.2.2.2.2.2.1 u.2.2.2.2.2.2.2.2) (py_B D (fun (u : (Nat → Int32) × (Nat → Int32) × (Nat → Int32) × (Nat → Int32) × (Nat → Int32) × (Nat → Int32) × (Nat → Int32) × (Nat → Int32) × (Nat → Int32)) => [(q_t, .inr (9, [.ref q_t_lanes, .ref q_t_sizes, .ref q_t_items, .ref q_t_spare, .ref q_t_many, .ref q_t_px, .ref q_t_py, .ref q_t_pz, .ref q_t_strip, .ref q_t_kind, .ref q_t_byHand, .ref q_t_round, .ref q_t_lost, .ref q_t_shifts, .ref q_t_matrix, .ref q_t_right, .ref q_t_found, .ref q_t_high, .int t_highs, .ref q_t_near, .ref q_t_cells, .ref q_t_part, .ref q_t_before, .ref q_t_tape, .int t_taped, .int t_at, .int t_fault, .int t_steps, .ref q_t_what, .ref q_t_numbers])), (q_t_lost, .inl (cy 1, (32, .inl u.1))), (q_t_many, .inl (cy 0, (2, .inl u.2.1))), (q_t_px, .inl (cy 0, (200, .inl u.2.2.1))), (q_t_py, .inl (cy 0, (200, .inl u.2.2.2.1))), (q_t_pz, .inl (cy 0, (200, .inl u.2.2.2.2.1))), (q_t_strip, .inl (cy 0, (200, .inl u.2.2.2.2.2.1))), (q_t_kind, .inl (cy 0, (200, .inl u.2.2.2.2.2.2.1))), (q_t_byHand, .inl (cy 0, (200, .inl u.2.2.2.2.2.2.2.1))), (q_t_round, .inl (cy 0, (200, .inl u.2.2.2.2.2.2.2.2)))]) (va_A [(q_t, .inr (9, [.ref q_t_lanes, .ref q_t_sizes, .ref q_t_items, .ref q_t_spare, .ref q_t_many, .ref q_t_px, .ref q_t_py, .ref q_t_pz, .ref q_t_strip, .ref q_t_kind, .ref q_t_byHand, .ref q_t_round, .ref q_t_lost, .ref q_t_shifts, .ref q_t_matrix, .ref q_t_right, .ref q_t_found, .ref q_t_high, .int t_highs, .ref q_t_near, .ref q_t_cells, .ref q_t_part, .ref q_t_before, .ref q_t_tape, .int t_taped, .int t_at, .int t_fault, .int t_steps, .ref q_t_what, .ref q_t_numbers])), (q_t_lost, .inl (cy 1, (32, .inl t_lost))), (q_t_many, .inl (cy 0, (2, .inl t_many))), (q_t_px, .inl (cy 0, (200, .inl t_px))), (q_t_py, .inl (cy 0, (200, .inl t_py))), (q_t_pz, .inl (cy 0, (200, .inl t_pz))), (q_t_strip, .inl (cy 0, (200, .inl t_strip))), (q_t_kind, .inl (cy 0, (200, .inl t_kind))), (q_t_byHand, .inl (cy 0, (200, .inl t_byHand))), (q_t_round, .inl (cy 0, (200, .inl t_round)))] sz)) (va_A [(q_t, .inr (9, [.ref q_t_lanes, .ref q_t_sizes, .ref q_t_items, .ref q_t_spare, .ref q_t_many, .ref q_t_px, .ref q_t_py, .ref q_t_pz, .ref q_t_strip, .ref q_t_kind, .ref q_t_byHand, .ref q_t_round, .ref q_t_lost, .ref q_t_shifts, .ref q_t_matrix, .ref q_t_right, .ref q_t_found, .ref q_t_high, .int t_highs, .ref q_t_near, .ref q_t_cells, .ref q_t_part, .ref q_t_before, .ref q_t_tape, .int t_taped, .int t_at, .int t_fault, .int t_steps, .ref q_t_what, .ref q_t_numbers])), (q_t_lost, .inl (cy 1, (32, .inl t_lost))), (q_t_many, .inl (cy 0, (2, .inl t_many))), (q_t_px, .inl (cy 0, (200, .inl t_px))), (q_t_py, .inl (cy 0, (200, .inl t_py))), (q_t_pz, .inl (cy 0, (200, .inl t_pz))), (q_t_strip, .inl (cy 0, (200, .inl t_strip))), (q_t_kind, .inl (cy 0, (200, .inl t_kind))), (q_t_byHand, .inl (cy 0, (200, .inl t_byHand))), (q_t_round, .inl (cy 0, (200, .inl t_round)))] sz)) 0 0 (va_A [(q_t, .inr (9, [.ref q_t_lanes, .ref q_t_sizes, .ref q_t_items, .ref q_t_spare, .ref q_t_many, .ref q_t_px, .ref q_t_py, .ref q_t_pz, .ref q_t_strip, .ref q_t_kind, .ref q_t_byHand, .ref q_t_round, .ref q_t_lost, .ref q_t_shifts, .ref q_t_matrix, .ref q_t_right, .ref q_t_found, .ref q_t_high, .int t_highs, .ref q_t_near, .ref q_t_cells, .ref q_t_part, .ref q_t_before, .ref q_t_tape, .int t_taped, .int t_at, .int t_fault, .int t_steps, .ref q_t_what, .ref q_t_numbers])), (q_t_lost, .inl (cy 1, (32, .inl t_lost))), (q_t_many, .inl (cy 0, (2, .inl t_many))), (q_t_px, .inl (cy 0, (200, .inl t_px))), (q_t_py, .inl (cy 0, (200, .inl t_py))), (q_t_pz, .inl (cy 0, (200, .inl t_pz))), (q_t_strip, .inl (cy 0, (200, .inl t_strip))), (q_t_kind, .inl (cy 0, (200, .inl t_kind))), (q_t_byHand, .inl (cy 0, (200, .inl t_byHand))), (q_t_round, .inl (cy 0, (200, .inl t_round)))] sz) := by
  refine Met.ofW (cc := cX9_lose) (maxL := 6) (ret := (some .int)) (by decide) rfl ?_
  intro p e s m args below meth c s₁ B hml hv
  obtain ⟨rfl, hsz, hP, hKK, hD0⟩ := hv
  have hK := hKK.1
  have hN := hKK.2
  have hx := B.exec
  have hb := B.bytes
  have hr := B.returns
  have hts := atoms_spec (ws := wsX9_lose) B.pre
  have hown : s.vm.findClass RX9 = some m.cls := findClass_of_methodNamed B.named
  have hlocks := B.notSynchronized
  have hi_X9 : ∀ w ∈ wsX90, w ∈ wsX9_lose := fun w h => List.mem_cons_of_mem _ (List.mem_append_right _ (h))
  subst hsz
  have hD := hD0.self (sz := s.heap.size)
  generalize hAe : va_A [(q_t, .inr (9, [.ref q_t_lanes, .ref q_t_sizes, .ref q_t_items, .ref q_t_spare, .ref q_t_many, .ref q_t_px, .ref q_t_py, .ref q_t_pz, .ref q_t_strip, .ref q_t_kind, .ref q_t_byHand, .ref q_t_round, .ref q_t_lost, .ref q_t_shifts, .ref q_t_matrix, .ref q_t_right, .ref q_t_found, .ref q_t_high, .int t_highs, .ref q_t_near, .ref q_t_cells, .ref q_t_part, .ref q_t_before, .ref q_t_tape, .int t_taped, .int t_at, .int t_fault, .int t_steps, .ref q_t_what, .ref q_t_numbers])), (q_t_lost, .inl (cy 1, (32, .inl t_lost))), (q_t_many, .inl (cy 0, (2, .inl t_many))), (q_t_px, .inl (cy 0, (200, .inl t_px))), (q_t_py, .inl (cy 0, (200, .inl t_py))), (q_t_pz, .inl (cy 0, (200, .inl t_pz))), (q_t_strip, .inl (cy 0, (200, .inl t_strip))), (q_t_kind, .inl (cy 0, (200, .inl t_kind))), (q_t_byHand, .inl (cy 0, (200, .inl t_byHand))), (q_t_round, .inl (cy 0, (200, .inl t_round)))] s.heap.size = A at hD ⊢
  have hA : ∀ q : Nat, s.heap.size ≤ q → A q := fun q h => by rw [← hAe]; exact Or.inr h
  have hS : va_S A s.heap s.heap [] := va_S.rf
  have hl := lv_entry ([.ref q_t, .int a1, .int a2] : List Value) (n := 6) (Nat.le_of_ble_eq_true rfl)
  rw [lg_entry_eq]
  generalize (lg_sl ([.ref q_t, .int a1, .int a2] : List Value) ++ List.replicate (6 - (lg_sl ([.ref q_t, .int a1, .int a2] : List Value)).length) Slot.unset).toArray = ls at hl ⊢
  have hl : lv_has ls 6 [(0, .ref q_t), (1, .int a1), (2, .int a2)] := hl
  unfold wp_X9_lose at h
  refine lv_iload_n hx hb dX9_lose_0 rfl (lv_at hl 1 rfl) ?_
  refine py_ci (py_rSp (As := [.int a1]) ⟨hx, hb, hml, hown, hts⟩ hKK hP [] rfl (c_X9_isYear l D cy a1 _ h) (va_cwS 1 hts gX9_lose_X9_isYear rfl rfl rfl cd_X9_isYear ⟨Nat.le_of_ble_eq_true rfl, Nat.le_of_ble_eq_true rfl⟩) rfl hl.1 rfl (Nat.le_of_ble_eq_true rfl) ⟨Nat.zero_le _, Nat.zero_le _⟩ dX9_lose_1) (fun r_1 h => ?_)
  refine lv_if_eq (tgt := 19) hx hb dX9_lose_4 (by decide) (fun c_ => ?_) (fun c_ => ?_)
  · have h := h.1 c_
    refine lv_iconst (v := (-1 : Int32)) hx hb dX9_lose_19 (by decide) ?_
    exact W.iret (v := (-1 : Int32)) hx hb hr (fun t ht hW => ⟨⟨(-1 : Int32), (t_lost, t_many, t_px, t_py, t_pz, t_strip, t_kind, t_byHand, t_round), rfl, h, by rw [ht]; exact hP, hD⟩, hS.F ht⟩) hS.2.2 dX9_lose_20
  · have h := h.2 c_
    refine lv_iload_n hx hb dX9_lose_7 rfl (lv_at hl 2 rfl) ?_
    refine lv_i2l (v := (a2.toInt64)) hx hb dX9_lose_8 rfl ?_
    refine lv_lconst (v := (0 : Int64)) hx hb dX9_lose_9 (by decide) ?_
    refine lv_ldc2 (v := (15 : Int64)) hx hb hown (hts (.constantLong RX9 131 (15)) (List.mem_of_getElem? (i := 1) rfl)) dX9_lose_10 ?_
    refine py_ci (py_rSp (As := [.long (a2.toInt64), .long (0 : Int64), .long (15 : Int64)]) ⟨hx, hb, hml, hown, hts⟩ hKK hP [] rfl (c_X9_in l D cy (a2.toInt64) (0 : Int64) (15 : Int64) _ h) (va_cwS 3 hts gX9_lose_X9_in rfl rfl rfl cd_X9_in ⟨Nat.le_of_ble_eq_true rfl, Nat.le_of_ble_eq_true rfl⟩) rfl hl.1 rfl (Nat.le_of_ble_eq_true rfl) ⟨Nat.zero_le _, Nat.zero_le _⟩ dX9_lose_13) (fun r_2 h => ?_)
    refine lv_if_ne (tgt := 21) hx hb dX9_lose_16 (by decide) (fun c_ => ?_) (fun c_ => ?_)
    · have h := h.2 c_
      refine lv_aload_n hx hb dX9_lose_21 rfl (lv_at hl 0 rfl) ?_
      refine va_get (D := D) (ci := 9) (C := RX9) (T := TX9) (N := 30) hx hb hts hi_X9 hown hK hP 0 rfl rfl 12 (by decide) (hts (.fieldLink RX9 46 "RayGroundModel" "lost" "[Z") (List.mem_of_getElem? (i := 2) rfl)) (fun _ h9 => h9) rfl dX9_lose_22 ?_
      refine lv_bipush (v := (16 : Int32)) hx hb dX9_lose_25 (by decide) ?_
      refine lv_iload_n hx hb dX9_lose_27 rfl (lv_at hl 1 rfl) ?_
      refine lv_imul hx hb dX9_lose_28 ?_
      refine lv_iload_n hx hb dX9_lose_29 rfl (lv_at hl 2 rfl) ?_
      refine lv_iadd hx hb dX9_lose_30 ?_
      refine py_zald hx hb hK hP 1 1 rfl rfl (k := (((16 : Int32) * a1) + a2).toNatClampNeg) rfl h.1 dX9_lose_31 ?_
      have h := h.2
      refine lv_if_eq (tgt := 38) hx hb dX9_lose_32 (by decide) (fun c_ => ?_) (fun c_ => ?_)
      · have h := h.1 c_
        have j208 : ∀ (t_lost : Nat → Int32) (t_many : Nat → Int32) (t_px : Nat → Int32) (t_py : Nat → Int32) (t_pz : Nat → Int32) (t_strip : Nat → Int32) (t_kind : Nat → Int32) (t_byHand : Nat → Int32) (t_round : Nat → Int32) (v1 : Int32) (v3 : Int32) (v4 : Int32) (H : Heap) (locs : List Loc), va_P D vwCl [(q_t, .inr (9, [.ref q_t_lanes, .ref q_t_sizes, .ref q_t_items, .ref q_t_spare, .ref q_t_many, .ref q_t_px, .ref q_t_py, .ref q_t_pz, .ref q_t_strip, .ref q_t_kind, .ref q_t_byHand, .ref q_t_round, .ref q_t_lost, .ref q_t_shifts, .ref q_t_matrix, .ref q_t_right, .ref q_t_found, .ref q_t_high, .int t_highs, .ref q_t_near, .ref q_t_cells, .ref q_t_part, .ref q_t_before, .ref q_t_tape, .int t_taped, .int t_at, .int t_fault, .int t_steps, .ref q_t_what, .ref q_t_numbers])), (q_t_lost, .inl (cy 1, (32, .inl t_lost))), (q_t_many, .inl (cy 0, (2, .inl t_many))), (q_t_px, .inl (cy 0, (200, .inl t_px))), (q_t_py, .inl (cy 0, (200, .inl t_py))), (q_t_pz, .inl (cy 0, (200, .inl t_pz))), (q_t_strip, .inl (cy 0, (200, .inl t_strip))), (q_t_kind, .inl (cy 0, (200, .inl t_kind))), (q_t_byHand, .inl (cy 0, (200, .inl t_byHand))), (q_t_round, .inl (cy 0, (200, .inl t_round)))] H → va_D A [(q_t, .inr (9, [.ref q_t_lanes, .ref q_t_sizes, .ref q_t_items, .ref q_t_spare, .ref q_t_many, .ref q_t_px, .ref q_t_py, .ref q_t_pz, .ref q_t_strip, .ref q_t_kind, .ref q_t_byHand, .ref q_t_round, .ref q_t_lost, .ref q_t_shifts, .ref q_t_matrix, .ref q_t_right, .ref q_t_found, .ref q_t_high, .int t_highs, .ref q_t_near, .ref q_t_cells, .ref q_t_part, .ref q_t_before, .ref q_t_tape, .int t_taped, .int t_at, .int t_fault, .int t_steps, .ref q_t_what, .ref q_t_numbers])), (q_t_lost, .inl (cy 1, (32, .inl t_lost))), (q_t_many, .inl (cy 0, (2, .inl t_many))), (q_t_px, .inl (cy 0, (200, .inl t_px))), (q_t_py, .inl (cy 0, (200, .inl t_py))), (q_t_pz, .inl (cy 0, (200, .inl t_pz))), (q_t_strip, .inl (cy 0, (200, .inl t_strip))), (q_t_kind, .inl (cy 0, (200, .inl t_kind))), (q_t_byHand, .inl (cy 0, (200, .inl t_byHand))), (q_t_round, .inl (cy 0, (200, .inl t_round)))] → va_S A s.heap H locs → ∀ (ls : Array Slot), lv_has ls 6 [(0, .ref q_t), (1, .int v1), (3, .int v3), (4, .int v4)] → wp_X9_lose_b208 Q t_lost t_many t_px t_py t_pz t_strip t_kind t_byHand t_round v1 v3 v4 → W p l e (headSpec wsX9_lose ({ frames := 2, cells := 0, slots := 0, locals := 45 } : Room)).room s m (([.ref q_t, .int a1, .int a2] : List Value)).toArray below meth c H locs 0 0 (MQ below (va_Qi (fun (r : Int32) (u : (Nat → Int32) × (Nat → Int32) × (Nat → Int32) × (Nat → Int32) × (Nat → Int32) × (Nat → Int32) × (Nat → Int32) × (Nat → Int32) × (Nat → Int32)) => Q r u.1 u.2.1 u.2.2.1 u.2.2.2.1 u.2.2.2.2.1 u.2.2.2.2.2.1 u.2.2.2.2.2.2.1 u.2.2.2.2.2.2.2.1 u.2.2.2.2.2.2.2.2) (py_B D (fun (u : (Nat → Int32) × (Nat → Int32) × (Nat → Int32) × (Nat → Int32) × (Nat → Int32) × (Nat → Int32) × (Nat → Int32) × (Nat → Int32) × (Nat → Int32)) => [(q_t, .inr (9, [.ref q_t_lanes, .ref q_t_sizes, .ref q_t_items, .ref q_t_spare, .ref q_t_many, .ref q_t_px, .ref q_t_py, .ref q_t_pz, .ref q_t_strip, .ref q_t_kind, .ref q_t_byHand, .ref q_t_round, .ref q_t_lost, .ref q_t_shifts, .ref q_t_matrix, .ref q_t_right, .ref q_t_found, .ref q_t_high, .int t_highs, .ref q_t_near, .ref q_t_cells, .ref q_t_part, .ref q_t_before, .ref q_t_tape, .int t_taped, .int t_at, .int t_fault, .int t_steps, .ref q_t_what, .ref q_t_numbers])), (q_t_lost, .inl (cy 1, (32, .inl u.1))), (q_t_many, .inl (cy 0, (2, .inl u.2.1))), (q_t_px, .inl (cy 0, (200, .inl u.2.2.1))), (q_t_py, .inl (cy 0, (200, .inl u.2.2.2.1))), (q_t_pz, .inl (cy 0, (200, .inl u.2.2.2.2.1))), (q_t_strip, .inl (cy 0, (200, .inl u.2.2.2.2.2.1))), (q_t_kind, .inl (cy 0, (200, .inl u.2.2.2.2.2.2.1))), (q_t_byHand, .inl (cy 0, (200, .inl u.2.2.2.2.2.2.2.1))), (q_t_round, .inl (cy 0, (200, .inl u.2.2.2.2.2.2.2.2)))]) A) A) (([.ref q_t, .int a1, .int a2] : List Value)).toArray s 0 0 A) (F0 m 208 ls []) := by
          intro t_lost t_many t_px t_py t_pz t_strip t_kind t_byHand t_round v1 v3 v4 H locs hP hD hS ls hl h
          unfold wp_X9_lose_b208 at h
          refine lv_aload_n hx hb dX9_lose_208 rfl (lv_at hl 0 rfl) ?_
          refine va_get (D := D) (ci := 9) (C := RX9) (T := TX9) (N := 30) hx hb hts hi_X9 hown hK hP 0 rfl rfl 4 (by decide) (hts (.fieldLink RX9 22 "RayGroundModel" "many" "[I") (List.mem_of_getElem? (i := 3) rfl)) (fun _ h9 => h9) rfl dX9_lose_209 ?_
          refine lv_iload_n hx hb dX9_lose_212 rfl (lv_at hl 1 rfl) ?_
          refine lv_iload hx hb dX9_lose_213 (lv_at hl 3 rfl) ?_
          refine lv_bipush (v := (100 : Int32)) hx hb dX9_lose_215 (by decide) ?_
          refine lv_iload_n hx hb dX9_lose_217 rfl (lv_at hl 1 rfl) ?_
          refine lv_imul hx hb dX9_lose_218 ?_
          refine lv_isub hx hb dX9_lose_219 ?_
          refine py_iast hx hb hK hP hD hS 2 0 rfl rfl (k := v1.toNatClampNeg) rfl h.1 dX9_lose_220 (fun H locs hP hD hS => ?_)
          have h := h.2
          have hP : va_P D vwCl [(q_t, .inr (9, [.ref q_t_lanes, .ref q_t_sizes, .ref q_t_items, .ref q_t_spare, .ref q_t_many, .ref q_t_px, .ref q_t_py, .ref q_t_pz, .ref q_t_strip, .ref q_t_kind, .ref q_t_byHand, .ref q_t_round, .ref q_t_lost, .ref q_t_shifts, .ref q_t_matrix, .ref q_t_right, .ref q_t_found, .ref q_t_high, .int t_highs, .ref q_t_near, .ref q_t_cells, .ref q_t_part, .ref q_t_before, .ref q_t_tape, .int t_taped, .int t_at, .int t_fault, .int t_steps, .ref q_t_what, .ref q_t_numbers])), (q_t_lost, .inl (cy 1, (32, .inl t_lost))), (q_t_many, .inl (cy 0, (2, .inl (upd t_many v1.toNatClampNeg (v4 - ((100 : Int32) * v1)))))), (q_t_px, .inl (cy 0, (200, .inl t_px))), (q_t_py, .inl (cy 0, (200, .inl t_py))), (q_t_pz, .inl (cy 0, (200, .inl t_pz))), (q_t_strip, .inl (cy 0, (200, .inl t_strip))), (q_t_kind, .inl (cy 0, (200, .inl t_kind))), (q_t_byHand, .inl (cy 0, (200, .inl t_byHand))), (q_t_round, .inl (cy 0, (200, .inl t_round)))] H := hP
          have hD : va_D A [(q_t, .inr (9, [.ref q_t_lanes, .ref q_t_sizes, .ref q_t_items, .ref q_t_spare, .ref q_t_many, .ref q_t_px, .ref q_t_py, .ref q_t_pz, .ref q_t_strip, .ref q_t_kind, .ref q_t_byHand, .ref q_t_round, .ref q_t_lost, .ref q_t_shifts, .ref q_t_matrix, .ref q_t_right, .ref q_t_found, .ref q_t_high, .int t_highs, .ref q_t_near, .ref q_t_cells, .ref q_t_part, .ref q_t_before, .ref q_t_tape, .int t_taped, .int t_at, .int t_fault, .int t_steps, .ref q_t_what, .ref q_t_numbers])), (q_t_lost, .inl (cy 1, (32, .inl t_lost))), (q_t_many, .inl (cy 0, (2, .inl (upd t_many v1.toNatClampNeg (v4 - ((100 : Int32) * v1)))))), (q_t_px, .inl (cy 0, (200, .inl t_px))), (q_t_py, .inl (cy 0, (200, .inl t_py))), (q_t_pz, .inl (cy 0, (200, .inl t_pz))), (q_t_strip, .inl (cy 0, (200, .inl t_strip))), (q_t_kind, .inl (cy 0, (200, .inl t_kind))), (q_t_byHand, .inl (cy 0, (200, .inl t_byHand))), (q_t_round, .inl (cy 0, (200, .inl t_round)))] := hD
          refine lv_iload_n hx hb dX9_lose_221 rfl (lv_at hl 2 rfl) ?_
          refine lv_aload_n hx hb dX9_lose_222 rfl (lv_at hl 0 rfl) ?_
          refine va_get (D := D) (ci := 9) (C := RX9) (T := TX9) (N := 30) hx hb hts hi_X9 hown hK hP 0 rfl rfl 4 (by decide) (hts (.fieldLink RX9 22 "RayGroundModel" "many" "[I") (List.mem_of_getElem? (i := 3) rfl)) (fun _ h9 => h9) rfl dX9_lose_223 ?_
          refine lv_iload_n hx hb dX9_lose_226 rfl (lv_at hl 1 rfl) ?_
          refine py_iald hx hb hK hP 2 0 rfl rfl (k := v1.toNatClampNeg) rfl h.1 dX9_lose_227 ?_
          have h := h.2
          refine lv_isub hx hb dX9_lose_228 ?_
          exact W.iret (v := (v3 - ((upd t_many v1.toNatClampNeg (v4 - ((100 : Int32) * v1))) v1.toNatClampNeg))) hx hb hr (fun t ht hW => ⟨⟨(v3 - ((upd t_many v1.toNatClampNeg (v4 - ((100 : Int32) * v1))) v1.toNatClampNeg)), (t_lost, (upd t_many v1.toNatClampNeg (v4 - ((100 : Int32) * v1))), t_px, t_py, t_pz, t_strip, t_kind, t_byHand, t_round), rfl, h, by rw [ht]; exact hP, hD⟩, hS.F ht⟩) hS.2.2 dX9_lose_229
        have lp69 : ∀ (t_lost : Nat → Int32) (t_many : Nat → Int32) (v1 : Int32) (v2 : Int32) (v3 : Int32) (n69 : Nat) (t_px : Nat → Int32) (t_py : Nat → Int32) (t_pz : Nat → Int32) (t_strip : Nat → Int32) (t_kind : Nat → Int32) (t_byHand : Nat → Int32) (t_round : Nat → Int32) (v4 : Int32) (v5 : Int32) (H : Heap) (locs : List Loc), va_P D vwCl [(q_t, .inr (9, [.ref q_t_lanes, .ref q_t_sizes, .ref q_t_items, .ref q_t_spare, .ref q_t_many, .ref q_t_px, .ref q_t_py, .ref q_t_pz, .ref q_t_strip, .ref q_t_kind, .ref q_t_byHand, .ref q_t_round, .ref q_t_lost, .ref q_t_shifts, .ref q_t_matrix, .ref q_t_right, .ref q_t_found, .ref q_t_high, .int t_highs, .ref q_t_near, .ref q_t_cells, .ref q_t_part, .ref q_t_before, .ref q_t_tape, .int t_taped, .int t_at, .int t_fault, .int t_steps, .ref q_t_what, .ref q_t_numbers])), (q_t_lost, .inl (cy 1, (32, .inl t_lost))), (q_t_many, .inl (cy 0, (2, .inl t_many))), (q_t_px, .inl (cy 0, (200, .inl t_px))), (q_t_py, .inl (cy 0, (200, .inl t_py))), (q_t_pz, .inl (cy 0, (200, .inl t_pz))), (q_t_strip, .inl (cy 0, (200, .inl t_strip))), (q_t_kind, .inl (cy 0, (200, .inl t_kind))), (q_t_byHand, .inl (cy 0, (200, .inl t_byHand))), (q_t_round, .inl (cy 0, (200, .inl t_round)))] H → va_D A [(q_t, .inr (9, [.ref q_t_lanes, .ref q_t_sizes, .ref q_t_items, .ref q_t_spare, .ref q_t_many, .ref q_t_px, .ref q_t_py, .ref q_t_pz, .ref q_t_strip, .ref q_t_kind, .ref q_t_byHand, .ref q_t_round, .ref q_t_lost, .ref q_t_shifts, .ref q_t_matrix, .ref q_t_right, .ref q_t_found, .ref q_t_high, .int t_highs, .ref q_t_near, .ref q_t_cells, .ref q_t_part, .ref q_t_before, .ref q_t_tape, .int t_taped, .int t_at, .int t_fault, .int t_steps, .ref q_t_what, .ref q_t_numbers])), (q_t_lost, .inl (cy 1, (32, .inl t_lost))), (q_t_many, .inl (cy 0, (2, .inl t_many))), (q_t_px, .inl (cy 0, (200, .inl t_px))), (q_t_py, .inl (cy 0, (200, .inl t_py))), (q_t_pz, .inl (cy 0, (200, .inl t_pz))), (q_t_strip, .inl (cy 0, (200, .inl t_strip))), (q_t_kind, .inl (cy 0, (200, .inl t_kind))), (q_t_byHand, .inl (cy 0, (200, .inl t_byHand))), (q_t_round, .inl (cy 0, (200, .inl t_round)))] → va_S A s.heap H locs → ∀ (ls : Array Slot), lv_has ls 6 [(0, .ref q_t), (1, .int v1), (2, .int v2), (3, .int v3), (4, .int v4), (5, .int v5)] → wp_X9_lose_b69 (wp_X9_lose_b208 Q) t_lost t_many v1 v2 v3 n69 t_px t_py t_pz t_strip t_kind t_byHand t_round v4 v5 → W p l e (headSpec wsX9_lose ({ frames := 2, cells := 0, slots := 0, locals := 45 } : Room)).room s m (([.ref q_t, .int a1, .int a2] : List Value)).toArray below meth c H locs 0 0 (MQ below (va_Qi (fun (r : Int32) (u : (Nat → Int32) × (Nat → Int32) × (Nat → Int32) × (Nat → Int32) × (Nat → Int32) × (Nat → Int32) × (Nat → Int32) × (Nat → Int32) × (Nat → Int32)) => Q r u.1 u.2.1 u.2.2.1 u.2.2.2.1 u.2.2.2.2.1 u.2.2.2.2.2.1 u.2.2.2.2.2.2.1 u.2.2.2.2.2.2.2.1 u.2.2.2.2.2.2.2.2) (py_B D (fun (u : (Nat → Int32) × (Nat → Int32) × (Nat → Int32) × (Nat → Int32) × (Nat → Int32) × (Nat → Int32) × (Nat → Int32) × (Nat → Int32) × (Nat → Int32)) => [(q_t, .inr (9, [.ref q_t_lanes, .ref q_t_sizes, .ref q_t_items, .ref q_t_spare, .ref q_t_many, .ref q_t_px, .ref q_t_py, .ref q_t_pz, .ref q_t_strip, .ref q_t_kind, .ref q_t_byHand, .ref q_t_round, .ref q_t_lost, .ref q_t_shifts, .ref q_t_matrix, .ref q_t_right, .ref q_t_found, .ref q_t_high, .int t_highs, .ref q_t_near, .ref q_t_cells, .ref q_t_part, .ref q_t_before, .ref q_t_tape, .int t_taped, .int t_at, .int t_fault, .int t_steps, .ref q_t_what, .ref q_t_numbers])), (q_t_lost, .inl (cy 1, (32, .inl u.1))), (q_t_many, .inl (cy 0, (2, .inl u.2.1))), (q_t_px, .inl (cy 0, (200, .inl u.2.2.1))), (q_t_py, .inl (cy 0, (200, .inl u.2.2.2.1))), (q_t_pz, .inl (cy 0, (200, .inl u.2.2.2.2.1))), (q_t_strip, .inl (cy 0, (200, .inl u.2.2.2.2.2.1))), (q_t_kind, .inl (cy 0, (200, .inl u.2.2.2.2.2.2.1))), (q_t_byHand, .inl (cy 0, (200, .inl u.2.2.2.2.2.2.2.1))), (q_t_round, .inl (cy 0, (200, .inl u.2.2.2.2.2.2.2.2)))]) A) A) (([.ref q_t, .int a1, .int a2] : List Value)).toArray s 0 0 A) (F0 m 69 ls []) := by
          intro t_lost t_many v1 v2 v3 n69
          induction n69 with
          | zero => intro t_px t_py t_pz t_strip t_kind t_byHand t_round v4 v5 H locs hP hD hS ls hl h; exact False.elim h
          | succ n69 ih69 =>
            intro t_px t_py t_pz t_strip t_kind t_byHand t_round v4 v5 H locs hP hD hS ls hl h
            have h : wp_X9_lose_b69_f (wp_X9_lose_b69 (wp_X9_lose_b208 Q) t_lost t_many v1 v2 v3 n69) (wp_X9_lose_b208 Q) t_lost t_many v1 v2 v3 t_px t_py t_pz t_strip t_kind t_byHand t_round v4 v5 := h
            unfold wp_X9_lose_b69_f at h
            refine lv_iload hx hb dX9_lose_69 (lv_at hl 5 rfl) ?_
            refine lv_bipush (v := (100 : Int32)) hx hb dX9_lose_71 (by decide) ?_
            refine lv_iload_n hx hb dX9_lose_73 rfl (lv_at hl 1 rfl) ?_
            refine lv_imul hx hb dX9_lose_74 ?_
            refine lv_iload_n hx hb dX9_lose_75 rfl (lv_at hl 3 rfl) ?_
            refine lv_iadd hx hb dX9_lose_76 ?_
            refine lv_icmp_ge (tgt := 208) hx hb dX9_lose_77 (by decide) (fun c_ => ?_) (fun c_ => ?_)
            · have h := h.1 c_
              exact j208 t_lost t_many t_px t_py t_pz t_strip t_kind t_byHand t_round v1 v3 v4 _ _ hP hD hS _ (lv_sub hl [0, 1, 3, 4] rfl) h
            · have h := h.2 c_
              have j202 : ∀ (t_px : Nat → Int32) (t_py : Nat → Int32) (t_pz : Nat → Int32) (t_strip : Nat → Int32) (t_kind : Nat → Int32) (t_byHand : Nat → Int32) (t_round : Nat → Int32) (v4 : Int32) (v5 : Int32) (H : Heap) (locs : List Loc), va_P D vwCl [(q_t, .inr (9, [.ref q_t_lanes, .ref q_t_sizes, .ref q_t_items, .ref q_t_spare, .ref q_t_many, .ref q_t_px, .ref q_t_py, .ref q_t_pz, .ref q_t_strip, .ref q_t_kind, .ref q_t_byHand, .ref q_t_round, .ref q_t_lost, .ref q_t_shifts, .ref q_t_matrix, .ref q_t_right, .ref q_t_found, .ref q_t_high, .int t_highs, .ref q_t_near, .ref q_t_cells, .ref q_t_part, .ref q_t_before, .ref q_t_tape, .int t_taped, .int t_at, .int t_fault, .int t_steps, .ref q_t_what, .ref q_t_numbers])), (q_t_lost, .inl (cy 1, (32, .inl t_lost))), (q_t_many, .inl (cy 0, (2, .inl t_many))), (q_t_px, .inl (cy 0, (200, .inl t_px))), (q_t_py, .inl (cy 0, (200, .inl t_py))), (q_t_pz, .inl (cy 0, (200, .inl t_pz))), (q_t_strip, .inl (cy 0, (200, .inl t_strip))), (q_t_kind, .inl (cy 0, (200, .inl t_kind))), (q_t_byHand, .inl (cy 0, (200, .inl t_byHand))), (q_t_round, .inl (cy 0, (200, .inl t_round)))] H → va_D A [(q_t, .inr (9, [.ref q_t_lanes, .ref q_t_sizes, .ref q_t_items, .ref q_t_spare, .ref q_t_many, .ref q_t_px, .ref q_t_py, .ref q_t_pz, .ref q_t_strip, .ref q_t_kind, .ref q_t_byHand, .ref q_t_round, .ref q_t_lost, .ref q_t_shifts, .ref q_t_matrix, .ref q_t_right, .ref q_t_found, .ref q_t_high, .int t_highs, .ref q_t_near, .ref q_t_cells, .ref q_t_part, .ref q_t_before, .ref q_t_tape, .int t_taped, .int t_at, .int t_fault, .int t_steps, .ref q_t_what, .ref q_t_numbers])), (q_t_lost, .inl (cy 1, (32, .inl t_lost))), (q_t_many, .inl (cy 0, (2, .inl t_many))), (q_t_px, .inl (cy 0, (200, .inl t_px))), (q_t_py, .inl (cy 0, (200, .inl t_py))), (q_t_pz, .inl (cy 0, (200, .inl t_pz))), (q_t_strip, .inl (cy 0, (200, .inl t_strip))), (q_t_kind, .inl (cy 0, (200, .inl t_kind))), (q_t_byHand, .inl (cy 0, (200, .inl t_byHand))), (q_t_round, .inl (cy 0, (200, .inl t_round)))] → va_S A s.heap H locs → ∀ (ls : Array Slot), lv_has ls 6 [(0, .ref q_t), (1, .int v1), (2, .int v2), (3, .int v3), (4, .int v4), (5, .int v5)] → wp_X9_lose_b202 (wp_X9_lose_b69 (wp_X9_lose_b208 Q) t_lost t_many v1 v2 v3 n69) t_px t_py t_pz t_strip t_kind t_byHand t_round v4 v5 → W p l e (headSpec wsX9_lose ({ frames := 2, cells := 0, slots := 0, locals := 45 } : Room)).room s m (([.ref q_t, .int a1, .int a2] : List Value)).toArray below meth c H locs 0 0 (MQ below (va_Qi (fun (r : Int32) (u : (Nat → Int32) × (Nat → Int32) × (Nat → Int32) × (Nat → Int32) × (Nat → Int32) × (Nat → Int32) × (Nat → Int32) × (Nat → Int32) × (Nat → Int32)) => Q r u.1 u.2.1 u.2.2.1 u.2.2.2.1 u.2.2.2.2.1 u.2.2.2.2.2.1 u.2.2.2.2.2.2.1 u.2.2.2.2.2.2.2.1 u.2.2.2.2.2.2.2.2) (py_B D (fun (u : (Nat → Int32) × (Nat → Int32) × (Nat → Int32) × (Nat → Int32) × (Nat → Int32) × (Nat → Int32) × (Nat → Int32) × (Nat → Int32) × (Nat → Int32)) => [(q_t, .inr (9, [.ref q_t_lanes, .ref q_t_sizes, .ref q_t_items, .ref q_t_spare, .ref q_t_many, .ref q_t_px, .ref q_t_py, .ref q_t_pz, .ref q_t_strip, .ref q_t_kind, .ref q_t_byHand, .ref q_t_round, .ref q_t_lost, .ref q_t_shifts, .ref q_t_matrix, .ref q_t_right, .ref q_t_found, .ref q_t_high, .int t_highs, .ref q_t_near, .ref q_t_cells, .ref q_t_part, .ref q_t_before, .ref q_t_tape, .int t_taped, .int t_at, .int t_fault, .int t_steps, .ref q_t_what, .ref q_t_numbers])), (q_t_lost, .inl (cy 1, (32, .inl u.1))), (q_t_many, .inl (cy 0, (2, .inl u.2.1))), (q_t_px, .inl (cy 0, (200, .inl u.2.2.1))), (q_t_py, .inl (cy 0, (200, .inl u.2.2.2.1))), (q_t_pz, .inl (cy 0, (200, .inl u.2.2.2.2.1))), (q_t_strip, .inl (cy 0, (200, .inl u.2.2.2.2.2.1))), (q_t_kind, .inl (cy 0, (200, .inl u.2.2.2.2.2.2.1))), (q_t_byHand, .inl (cy 0, (200, .inl u.2.2.2.2.2.2.2.1))), (q_t_round, .inl (cy 0, (200, .inl u.2.2.2.2.2.2.2.2)))]) A) A) (([.ref q_t, .int a1, .int a2] : List Value)).toArray s 0 0 A) (F0 m 202 ls []) := by
                intro t_px t_py t_pz t_strip t_kind t_byHand t_round v4 v5 H locs hP hD hS ls hl h
                unfold wp_X9_lose_b202 at h
                obtain ⟨v5_3, ev5_3⟩ : ∃ y : Int32, y = v5 + (1 : Int32) := ⟨_, rfl⟩
                have h := h v5_3 ev5_3
                refine lv_iinc (v := v5_3) (lv' := [(5, .int v5_3), (0, .ref q_t), (1, .int v1), (2, .int v2), (3, .int v3), (4, .int v4)]) hx hb dX9_lose_202 hl (k := 5) rfl (by rw [ev5_3]; rfl) (by decide) rfl (fun ls hl => ?_)
                refine lv_goto (tgt := 69) hx hb dX9_lose_205 (by decide) ?_
                exact ih69 t_px t_py t_pz t_strip t_kind t_byHand t_round v4 v5_3 _ _ hP hD hS _ (lv_sub hl [1, 2, 3, 4, 5, 0] rfl) h
              refine lv_aload_n hx hb dX9_lose_80 rfl (lv_at hl 0 rfl) ?_
              refine va_get (D := D) (ci := 9) (C := RX9) (T := TX9) (N := 30) hx hb hts hi_X9 hown hK hP 0 rfl rfl 5 (by decide) (hts (.fieldLink RX9 25 "RayGroundModel" "px" "[I") (List.mem_of_getElem? (i := 4) rfl)) (fun _ h9 => h9) rfl dX9_lose_81 ?_
              refine lv_iload hx hb dX9_lose_84 (lv_at hl 5 rfl) ?_
              refine py_iald hx hb hK hP 3 0 rfl rfl (k := v5.toNatClampNeg) rfl h.1 dX9_lose_86 ?_
              have h := h.2
              refine lv_aload_n hx hb dX9_lose_87 rfl (lv_at hl 0 rfl) ?_
              refine va_get (D := D) (ci := 9) (C := RX9) (T := TX9) (N := 30) hx hb hts hi_X9 hown hK hP 0 rfl rfl 6 (by decide) (hts (.fieldLink RX9 28 "RayGroundModel" "py" "[I") (List.mem_of_getElem? (i := 5) rfl)) (fun _ h9 => h9) rfl dX9_lose_88 ?_
              refine lv_iload hx hb dX9_lose_91 (lv_at hl 5 rfl) ?_
              refine py_iald hx hb hK hP 4 0 rfl rfl (k := v5.toNatClampNeg) rfl h.1 dX9_lose_93 ?_
              have h := h.2
              refine py_ci (py_rSp (As := [.int (t_px v5.toNatClampNeg), .int (t_py v5.toNatClampNeg)]) ⟨hx, hb, hml, hown, hts⟩ hKK hP [] rfl (c_X9_tileOf l D cy (t_px v5.toNatClampNeg) (t_py v5.toNatClampNeg) _ h) (va_cwS 2 hts gX9_lose_X9_tileOf rfl rfl rfl cd_X9_tileOf ⟨Nat.le_of_ble_eq_true rfl, Nat.le_of_ble_eq_true rfl⟩) rfl hl.1 rfl (Nat.le_of_ble_eq_true rfl) ⟨Nat.zero_le _, Nat.zero_le _⟩ dX9_lose_94) (fun r_4 h => ?_)
              refine lv_iload_n hx hb dX9_lose_97 rfl (lv_at hl 2 rfl) ?_
              refine lv_icmp_eq (tgt := 202) hx hb dX9_lose_98 (by decide) (fun c_ => ?_) (fun c_ => ?_)
              · have h := h.1 c_
                exact j202 t_px t_py t_pz t_strip t_kind t_byHand t_round v4 v5 _ _ hP hD hS _ hl h
              · have h := h.2 c_
                refine lv_aload_n hx hb dX9_lose_101 rfl (lv_at hl 0 rfl) ?_
                refine va_get (D := D) (ci := 9) (C := RX9) (T := TX9) (N := 30) hx hb hts hi_X9 hown hK hP 0 rfl rfl 5 (by decide) (hts (.fieldLink RX9 25 "RayGroundModel" "px" "[I") (List.mem_of_getElem? (i := 4) rfl)) (fun _ h9 => h9) rfl dX9_lose_102 ?_
                refine lv_iload hx hb dX9_lose_105 (lv_at hl 4 rfl) ?_
                refine lv_aload_n hx hb dX9_lose_107 rfl (lv_at hl 0 rfl) ?_
                refine va_get (D := D) (ci := 9) (C := RX9) (T := TX9) (N := 30) hx hb hts hi_X9 hown hK hP 0 rfl rfl 5 (by decide) (hts (.fieldLink RX9 25 "RayGroundModel" "px" "[I") (List.mem_of_getElem? (i := 4) rfl)) (fun _ h9 => h9) rfl dX9_lose_108 ?_
                refine lv_iload hx hb dX9_lose_111 (lv_at hl 5 rfl) ?_
                refine py_iald hx hb hK hP 3 0 rfl rfl (k := v5.toNatClampNeg) rfl h.1 dX9_lose_113 ?_
                have h := h.2
                refine py_iast hx hb hK hP hD hS 3 0 rfl rfl (k := v4.toNatClampNeg) rfl h.1 dX9_lose_114 (fun H locs hP hD hS => ?_)
                have h := h.2
                have hP : va_P D vwCl [(q_t, .inr (9, [.ref q_t_lanes, .ref q_t_sizes, .ref q_t_items, .ref q_t_spare, .ref q_t_many, .ref q_t_px, .ref q_t_py, .ref q_t_pz, .ref q_t_strip, .ref q_t_kind, .ref q_t_byHand, .ref q_t_round, .ref q_t_lost, .ref q_t_shifts, .ref q_t_matrix, .ref q_t_right, .ref q_t_found, .ref q_t_high, .int t_highs, .ref q_t_near, .ref q_t_cells, .ref q_t_part, .ref q_t_before, .ref q_t_tape, .int t_taped, .int t_at, .int t_fault, .int t_steps, .ref q_t_what, .ref q_t_numbers])), (q_t_lost, .inl (cy 1, (32, .inl t_lost))), (q_t_many, .inl (cy 0, (2, .inl t_many))), (q_t_px, .inl (cy 0, (200, .inl (upd t_px v4.toNatClampNeg (t_px v5.toNatClampNeg))))), (q_t_py, .inl (cy 0, (200, .inl t_py))), (q_t_pz, .inl (cy 0, (200, .inl t_pz))), (q_t_strip, .inl (cy 0, (200, .inl t_strip))), (q_t_kind, .inl (cy 0, (200, .inl t_kind))), (q_t_byHand, .inl (cy 0, (200, .inl t_byHand))), (q_t_round, .inl (cy 0, (200, .inl t_round)))] H := hP
                have hD : va_D A [(q_t, .inr (9, [.ref q_t_lanes, .ref q_t_sizes, .ref q_t_items, .ref q_t_spare, .ref q_t_many, .ref q_t_px, .ref q_t_py, .ref q_t_pz, .ref q_t_strip, .ref q_t_kind, .ref q_t_byHand, .ref q_t_round, .ref q_t_lost, .ref q_t_shifts, .ref q_t_matrix, .ref q_t_right, .ref q_t_found, .ref q_t_high, .int t_highs, .ref q_t_near, .ref q_t_cells, .ref q_t_part, .ref q_t_before, .ref q_t_tape, .int t_taped, .int t_at, .int t_fault, .int t_steps, .ref q_t_what, .ref q_t_numbers])), (q_t_lost, .inl (cy 1, (32, .inl t_lost))), (q_t_many, .inl (cy 0, (2, .inl t_many))), (q_t_px, .inl (cy 0, (200, .inl (upd t_px v4.toNatClampNeg (t_px v5.toNatClampNeg))))), (q_t_py, .inl (cy 0, (200, .inl t_py))), (q_t_pz, .inl (cy 0, (200, .inl t_pz))), (q_t_strip, .inl (cy 0, (200, .inl t_strip))), (q_t_kind, .inl (cy 0, (200, .inl t_kind))), (q_t_byHand, .inl (cy 0, (200, .inl t_byHand))), (q_t_round, .inl (cy 0, (200, .inl t_round)))] := hD
                refine lv_aload_n hx hb dX9_lose_115 rfl (lv_at hl 0 rfl) ?_
                refine va_get (D := D) (ci := 9) (C := RX9) (T := TX9) (N := 30) hx hb hts hi_X9 hown hK hP 0 rfl rfl 6 (by decide) (hts (.fieldLink RX9 28 "RayGroundModel" "py" "[I") (List.mem_of_getElem? (i := 5) rfl)) (fun _ h9 => h9) rfl dX9_lose_116 ?_
                refine lv_iload hx hb dX9_lose_119 (lv_at hl 4 rfl) ?_
                refine lv_aload_n hx hb dX9_lose_121 rfl (lv_at hl 0 rfl) ?_
                refine va_get (D := D) (ci := 9) (C := RX9) (T := TX9) (N := 30) hx hb hts hi_X9 hown hK hP 0 rfl rfl 6 (by decide) (hts (.fieldLink RX9 28 "RayGroundModel" "py" "[I") (List.mem_of_getElem? (i := 5) rfl)) (fun _ h9 => h9) rfl dX9_lose_122 ?_
                refine lv_iload hx hb dX9_lose_125 (lv_at hl 5 rfl) ?_
                refine py_iald hx hb hK hP 4 0 rfl rfl (k := v5.toNatClampNeg) rfl h.1 dX9_lose_127 ?_
                have h := h.2
                refine py_iast hx hb hK hP hD hS 4 0 rfl rfl (k := v4.toNatClampNeg) rfl h.1 dX9_lose_128 (fun H locs hP hD hS => ?_)
                have h := h.2
                have hP : va_P D vwCl [(q_t, .inr (9, [.ref q_t_lanes, .ref q_t_sizes, .ref q_t_items, .ref q_t_spare, .ref q_t_many, .ref q_t_px, .ref q_t_py, .ref q_t_pz, .ref q_t_strip, .ref q_t_kind, .ref q_t_byHand, .ref q_t_round, .ref q_t_lost, .ref q_t_shifts, .ref q_t_matrix, .ref q_t_right, .ref q_t_found, .ref q_t_high, .int t_highs, .ref q_t_near, .ref q_t_cells, .ref q_t_part, .ref q_t_before, .ref q_t_tape, .int t_taped, .int t_at, .int t_fault, .int t_steps, .ref q_t_what, .ref q_t_numbers])), (q_t_lost, .inl (cy 1, (32, .inl t_lost))), (q_t_many, .inl (cy 0, (2, .inl t_many))), (q_t_px, .inl (cy 0, (200, .inl (upd t_px v4.toNatClampNeg (t_px v5.toNatClampNeg))))), (q_t_py, .inl (cy 0, (200, .inl (upd t_py v4.toNatClampNeg (t_py v5.toNatClampNeg))))), (q_t_pz, .inl (cy 0, (200, .inl t_pz))), (q_t_strip, .inl (cy 0, (200, .inl t_strip))), (q_t_kind, .inl (cy 0, (200, .inl t_kind))), (q_t_byHand, .inl (cy 0, (200, .inl t_byHand))), (q_t_round, .inl (cy 0, (200, .inl t_round)))] H := hP
                have hD : va_D A [(q_t, .inr (9, [.ref q_t_lanes, .ref q_t_sizes, .ref q_t_items, .ref q_t_spare, .ref q_t_many, .ref q_t_px, .ref q_t_py, .ref q_t_pz, .ref q_t_strip, .ref q_t_kind, .ref q_t_byHand, .ref q_t_round, .ref q_t_lost, .ref q_t_shifts, .ref q_t_matrix, .ref q_t_right, .ref q_t_found, .ref q_t_high, .int t_highs, .ref q_t_near, .ref q_t_cells, .ref q_t_part, .ref q_t_before, .ref q_t_tape, .int t_taped, .int t_at, .int t_fault, .int t_steps, .ref q_t_what, .ref q_t_numbers])), (q_t_lost, .inl (cy 1, (32, .inl t_lost))), (q_t_many, .inl (cy 0, (2, .inl t_many))), (q_t_px, .inl (cy 0, (200, .inl (upd t_px v4.toNatClampNeg (t_px v5.toNatClampNeg))))), (q_t_py, .inl (cy 0, (200, .inl (upd t_py v4.toNatClampNeg (t_py v5.toNatClampNeg))))), (q_t_pz, .inl (cy 0, (200, .inl t_pz))), (q_t_strip, .inl (cy 0, (200, .inl t_strip))), (q_t_kind, .inl (cy 0, (200, .inl t_kind))), (q_t_byHand, .inl (cy 0, (200, .inl t_byHand))), (q_t_round, .inl (cy 0, (200, .inl t_round)))] := hD
                refine lv_aload_n hx hb dX9_lose_129 rfl (lv_at hl 0 rfl) ?_
                refine va_get (D := D) (ci := 9) (C := RX9) (T := TX9) (N := 30) hx hb hts hi_X9 hown hK hP 0 rfl rfl 7 (by decide) (hts (.fieldLink RX9 31 "RayGroundModel" "pz" "[I") (List.mem_of_getElem? (i := 6) rfl)) (fun _ h9 => h9) rfl dX9_lose_130 ?_
                refine lv_iload hx hb dX9_lose_133 (lv_at hl 4 rfl) ?_
                refine lv_aload_n hx hb dX9_lose_135 rfl (lv_at hl 0 rfl) ?_
                refine va_get (D := D) (ci := 9) (C := RX9) (T := TX9) (N := 30) hx hb hts hi_X9 hown hK hP 0 rfl rfl 7 (by decide) (hts (.fieldLink RX9 31 "RayGroundModel" "pz" "[I") (List.mem_of_getElem? (i := 6) rfl)) (fun _ h9 => h9) rfl dX9_lose_136 ?_
                refine lv_iload hx hb dX9_lose_139 (lv_at hl 5 rfl) ?_
                refine py_iald hx hb hK hP 5 0 rfl rfl (k := v5.toNatClampNeg) rfl h.1 dX9_lose_141 ?_
                have h := h.2
                refine py_iast hx hb hK hP hD hS 5 0 rfl rfl (k := v4.toNatClampNeg) rfl h.1 dX9_lose_142 (fun H locs hP hD hS => ?_)
                have h := h.2
                have hP : va_P D vwCl [(q_t, .inr (9, [.ref q_t_lanes, .ref q_t_sizes, .ref q_t_items, .ref q_t_spare, .ref q_t_many, .ref q_t_px, .ref q_t_py, .ref q_t_pz, .ref q_t_strip, .ref q_t_kind, .ref q_t_byHand, .ref q_t_round, .ref q_t_lost, .ref q_t_shifts, .ref q_t_matrix, .ref q_t_right, .ref q_t_found, .ref q_t_high, .int t_highs, .ref q_t_near, .ref q_t_cells, .ref q_t_part, .ref q_t_before, .ref q_t_tape, .int t_taped, .int t_at, .int t_fault, .int t_steps, .ref q_t_what, .ref q_t_numbers])), (q_t_lost, .inl (cy 1, (32, .inl t_lost))), (q_t_many, .inl (cy 0, (2, .inl t_many))), (q_t_px, .inl (cy 0, (200, .inl (upd t_px v4.toNatClampNeg (t_px v5.toNatClampNeg))))), (q_t_py, .inl (cy 0, (200, .inl (upd t_py v4.toNatClampNeg (t_py v5.toNatClampNeg))))), (q_t_pz, .inl (cy 0, (200, .inl (upd t_pz v4.toNatClampNeg (t_pz v5.toNatClampNeg))))), (q_t_strip, .inl (cy 0, (200, .inl t_strip))), (q_t_kind, .inl (cy 0, (200, .inl t_kind))), (q_t_byHand, .inl (cy 0, (200, .inl t_byHand))), (q_t_round, .inl (cy 0, (200, .inl t_round)))] H := hP
                have hD : va_D A [(q_t, .inr (9, [.ref q_t_lanes, .ref q_t_sizes, .ref q_t_items, .ref q_t_spare, .ref q_t_many, .ref q_t_px, .ref q_t_py, .ref q_t_pz, .ref q_t_strip, .ref q_t_kind, .ref q_t_byHand, .ref q_t_round, .ref q_t_lost, .ref q_t_shifts, .ref q_t_matrix, .ref q_t_right, .ref q_t_found, .ref q_t_high, .int t_highs, .ref q_t_near, .ref q_t_cells, .ref q_t_part, .ref q_t_before, .ref q_t_tape, .int t_taped, .int t_at, .int t_fault, .int t_steps, .ref q_t_what, .ref q_t_numbers])), (q_t_lost, .inl (cy 1, (32, .inl t_lost))), (q_t_many, .inl (cy 0, (2, .inl t_many))), (q_t_px, .inl (cy 0, (200, .inl (upd t_px v4.toNatClampNeg (t_px v5.toNatClampNeg))))), (q_t_py, .inl (cy 0, (200, .inl (upd t_py v4.toNatClampNeg (t_py v5.toNatClampNeg))))), (q_t_pz, .inl (cy 0, (200, .inl (upd t_pz v4.toNatClampNeg (t_pz v5.toNatClampNeg))))), (q_t_strip, .inl (cy 0, (200, .inl t_strip))), (q_t_kind, .inl (cy 0, (200, .inl t_kind))), (q_t_byHand, .inl (cy 0, (200, .inl t_byHand))), (q_t_round, .inl (cy 0, (200, .inl t_round)))] := hD
                refine lv_aload_n hx hb dX9_lose_143 rfl (lv_at hl 0 rfl) ?_
                refine va_get (D := D) (ci := 9) (C := RX9) (T := TX9) (N := 30) hx hb hts hi_X9 hown hK hP 0 rfl rfl 8 (by decide) (hts (.fieldLink RX9 34 "RayGroundModel" "strip" "[I") (List.mem_of_getElem? (i := 7) rfl)) (fun _ h9 => h9) rfl dX9_lose_144 ?_
                refine lv_iload hx hb dX9_lose_147 (lv_at hl 4 rfl) ?_
                refine lv_aload_n hx hb dX9_lose_149 rfl (lv_at hl 0 rfl) ?_
                refine va_get (D := D) (ci := 9) (C := RX9) (T := TX9) (N := 30) hx hb hts hi_X9 hown hK hP 0 rfl rfl 8 (by decide) (hts (.fieldLink RX9 34 "RayGroundModel" "strip" "[I") (List.mem_of_getElem? (i := 7) rfl)) (fun _ h9 => h9) rfl dX9_lose_150 ?_
                refine lv_iload hx hb dX9_lose_153 (lv_at hl 5 rfl) ?_
                refine py_iald hx hb hK hP 6 0 rfl rfl (k := v5.toNatClampNeg) rfl h.1 dX9_lose_155 ?_
                have h := h.2
                refine py_iast hx hb hK hP hD hS 6 0 rfl rfl (k := v4.toNatClampNeg) rfl h.1 dX9_lose_156 (fun H locs hP hD hS => ?_)
                have h := h.2
                have hP : va_P D vwCl [(q_t, .inr (9, [.ref q_t_lanes, .ref q_t_sizes, .ref q_t_items, .ref q_t_spare, .ref q_t_many, .ref q_t_px, .ref q_t_py, .ref q_t_pz, .ref q_t_strip, .ref q_t_kind, .ref q_t_byHand, .ref q_t_round, .ref q_t_lost, .ref q_t_shifts, .ref q_t_matrix, .ref q_t_right, .ref q_t_found, .ref q_t_high, .int t_highs, .ref q_t_near, .ref q_t_cells, .ref q_t_part, .ref q_t_before, .ref q_t_tape, .int t_taped, .int t_at, .int t_fault, .int t_steps, .ref q_t_what, .ref q_t_numbers])), (q_t_lost, .inl (cy 1, (32, .inl t_lost))), (q_t_many, .inl (cy 0, (2, .inl t_many))), (q_t_px, .inl (cy 0, (200, .inl (upd t_px v4.toNatClampNeg (t_px v5.toNatClampNeg))))), (q_t_py, .inl (cy 0, (200, .inl (upd t_py v4.toNatClampNeg (t_py v5.toNatClampNeg))))), (q_t_pz, .inl (cy 0, (200, .inl (upd t_pz v4.toNatClampNeg (t_pz v5.toNatClampNeg))))), (q_t_strip, .inl (cy 0, (200, .inl (upd t_strip v4.toNatClampNeg (t_strip v5.toNatClampNeg))))), (q_t_kind, .inl (cy 0, (200, .inl t_kind))), (q_t_byHand, .inl (cy 0, (200, .inl t_byHand))), (q_t_round, .inl (cy 0, (200, .inl t_round)))] H := hP
                have hD : va_D A [(q_t, .inr (9, [.ref q_t_lanes, .ref q_t_sizes, .ref q_t_items, .ref q_t_spare, .ref q_t_many, .ref q_t_px, .ref q_t_py, .ref q_t_pz, .ref q_t_strip, .ref q_t_kind, .ref q_t_byHand, .ref q_t_round, .ref q_t_lost, .ref q_t_shifts, .ref q_t_matrix, .ref q_t_right, .ref q_t_found, .ref q_t_high, .int t_highs, .ref q_t_near, .ref q_t_cells, .ref q_t_part, .ref q_t_before, .ref q_t_tape, .int t_taped, .int t_at, .int t_fault, .int t_steps, .ref q_t_what, .ref q_t_numbers])), (q_t_lost, .inl (cy 1, (32, .inl t_lost))), (q_t_many, .inl (cy 0, (2, .inl t_many))), (q_t_px, .inl (cy 0, (200, .inl (upd t_px v4.toNatClampNeg (t_px v5.toNatClampNeg))))), (q_t_py, .inl (cy 0, (200, .inl (upd t_py v4.toNatClampNeg (t_py v5.toNatClampNeg))))), (q_t_pz, .inl (cy 0, (200, .inl (upd t_pz v4.toNatClampNeg (t_pz v5.toNatClampNeg))))), (q_t_strip, .inl (cy 0, (200, .inl (upd t_strip v4.toNatClampNeg (t_strip v5.toNatClampNeg))))), (q_t_kind, .inl (cy 0, (200, .inl t_kind))), (q_t_byHand, .inl (cy 0, (200, .inl t_byHand))), (q_t_round, .inl (cy 0, (200, .inl t_round)))] := hD
                refine lv_aload_n hx hb dX9_lose_157 rfl (lv_at hl 0 rfl) ?_
                refine va_get (D := D) (ci := 9) (C := RX9) (T := TX9) (N := 30) hx hb hts hi_X9 hown hK hP 0 rfl rfl 9 (by decide) (hts (.fieldLink RX9 37 "RayGroundModel" "kind" "[I") (List.mem_of_getElem? (i := 8) rfl)) (fun _ h9 => h9) rfl dX9_lose_158 ?_
                refine lv_iload hx hb dX9_lose_161 (lv_at hl 4 rfl) ?_
                refine lv_aload_n hx hb dX9_lose_163 rfl (lv_at hl 0 rfl) ?_
                refine va_get (D := D) (ci := 9) (C := RX9) (T := TX9) (N := 30) hx hb hts hi_X9 hown hK hP 0 rfl rfl 9 (by decide) (hts (.fieldLink RX9 37 "RayGroundModel" "kind" "[I") (List.mem_of_getElem? (i := 8) rfl)) (fun _ h9 => h9) rfl dX9_lose_164 ?_
                refine lv_iload hx hb dX9_lose_167 (lv_at hl 5 rfl) ?_
                refine py_iald hx hb hK hP 7 0 rfl rfl (k := v5.toNatClampNeg) rfl h.1 dX9_lose_169 ?_
                have h := h.2
                refine py_iast hx hb hK hP hD hS 7 0 rfl rfl (k := v4.toNatClampNeg) rfl h.1 dX9_lose_170 (fun H locs hP hD hS => ?_)
                have h := h.2
                have hP : va_P D vwCl [(q_t, .inr (9, [.ref q_t_lanes, .ref q_t_sizes, .ref q_t_items, .ref q_t_spare, .ref q_t_many, .ref q_t_px, .ref q_t_py, .ref q_t_pz, .ref q_t_strip, .ref q_t_kind, .ref q_t_byHand, .ref q_t_round, .ref q_t_lost, .ref q_t_shifts, .ref q_t_matrix, .ref q_t_right, .ref q_t_found, .ref q_t_high, .int t_highs, .ref q_t_near, .ref q_t_cells, .ref q_t_part, .ref q_t_before, .ref q_t_tape, .int t_taped, .int t_at, .int t_fault, .int t_steps, .ref q_t_what, .ref q_t_numbers])), (q_t_lost, .inl (cy 1, (32, .inl t_lost))), (q_t_many, .inl (cy 0, (2, .inl t_many))), (q_t_px, .inl (cy 0, (200, .inl (upd t_px v4.toNatClampNeg (t_px v5.toNatClampNeg))))), (q_t_py, .inl (cy 0, (200, .inl (upd t_py v4.toNatClampNeg (t_py v5.toNatClampNeg))))), (q_t_pz, .inl (cy 0, (200, .inl (upd t_pz v4.toNatClampNeg (t_pz v5.toNatClampNeg))))), (q_t_strip, .inl (cy 0, (200, .inl (upd t_strip v4.toNatClampNeg (t_strip v5.toNatClampNeg))))), (q_t_kind, .inl (cy 0, (200, .inl (upd t_kind v4.toNatClampNeg (t_kind v5.toNatClampNeg))))), (q_t_byHand, .inl (cy 0, (200, .inl t_byHand))), (q_t_round, .inl (cy 0, (200, .inl t_round)))] H := hP
                have hD : va_D A [(q_t, .inr (9, [.ref q_t_lanes, .ref q_t_sizes, .ref q_t_items, .ref q_t_spare, .ref q_t_many, .ref q_t_px, .ref q_t_py, .ref q_t_pz, .ref q_t_strip, .ref q_t_kind, .ref q_t_byHand, .ref q_t_round, .ref q_t_lost, .ref q_t_shifts, .ref q_t_matrix, .ref q_t_right, .ref q_t_found, .ref q_t_high, .int t_highs, .ref q_t_near, .ref q_t_cells, .ref q_t_part, .ref q_t_before, .ref q_t_tape, .int t_taped, .int t_at, .int t_fault, .int t_steps, .ref q_t_what, .ref q_t_numbers])), (q_t_lost, .inl (cy 1, (32, .inl t_lost))), (q_t_many, .inl (cy 0, (2, .inl t_many))), (q_t_px, .inl (cy 0, (200, .inl (upd t_px v4.toNatClampNeg (t_px v5.toNatClampNeg))))), (q_t_py, .inl (cy 0, (200, .inl (upd t_py v4.toNatClampNeg (t_py v5.toNatClampNeg))))), (q_t_pz, .inl (cy 0, (200, .inl (upd t_pz v4.toNatClampNeg (t_pz v5.toNatClampNeg))))), (q_t_strip, .inl (cy 0, (200, .inl (upd t_strip v4.toNatClampNeg (t_strip v5.toNatClampNeg))))), (q_t_kind, .inl (cy 0, (200, .inl (upd t_kind v4.toNatClampNeg (t_kind v5.toNatClampNeg))))), (q_t_byHand, .inl (cy 0, (200, .inl t_byHand))), (q_t_round, .inl (cy 0, (200, .inl t_round)))] := hD
                refine lv_aload_n hx hb dX9_lose_171 rfl (lv_at hl 0 rfl) ?_
                refine va_get (D := D) (ci := 9) (C := RX9) (T := TX9) (N := 30) hx hb hts hi_X9 hown hK hP 0 rfl rfl 10 (by decide) (hts (.fieldLink RX9 40 "RayGroundModel" "byHand" "[I") (List.mem_of_getElem? (i := 9) rfl)) (fun _ h9 => h9) rfl dX9_lose_172 ?_
                refine lv_iload hx hb dX9_lose_175 (lv_at hl 4 rfl) ?_
                refine lv_aload_n hx hb dX9_lose_177 rfl (lv_at hl 0 rfl) ?_
                refine va_get (D := D) (ci := 9) (C := RX9) (T := TX9) (N := 30) hx hb hts hi_X9 hown hK hP 0 rfl rfl 10 (by decide) (hts (.fieldLink RX9 40 "RayGroundModel" "byHand" "[I") (List.mem_of_getElem? (i := 9) rfl)) (fun _ h9 => h9) rfl dX9_lose_178 ?_
                refine lv_iload hx hb dX9_lose_181 (lv_at hl 5 rfl) ?_
                refine py_iald hx hb hK hP 8 0 rfl rfl (k := v5.toNatClampNeg) rfl h.1 dX9_lose_183 ?_
                have h := h.2
                refine py_iast hx hb hK hP hD hS 8 0 rfl rfl (k := v4.toNatClampNeg) rfl h.1 dX9_lose_184 (fun H locs hP hD hS => ?_)
                have h := h.2
                have hP : va_P D vwCl [(q_t, .inr (9, [.ref q_t_lanes, .ref q_t_sizes, .ref q_t_items, .ref q_t_spare, .ref q_t_many, .ref q_t_px, .ref q_t_py, .ref q_t_pz, .ref q_t_strip, .ref q_t_kind, .ref q_t_byHand, .ref q_t_round, .ref q_t_lost, .ref q_t_shifts, .ref q_t_matrix, .ref q_t_right, .ref q_t_found, .ref q_t_high, .int t_highs, .ref q_t_near, .ref q_t_cells, .ref q_t_part, .ref q_t_before, .ref q_t_tape, .int t_taped, .int t_at, .int t_fault, .int t_steps, .ref q_t_what, .ref q_t_numbers])), (q_t_lost, .inl (cy 1, (32, .inl t_lost))), (q_t_many, .inl (cy 0, (2, .inl t_many))), (q_t_px, .inl (cy 0, (200, .inl (upd t_px v4.toNatClampNeg (t_px v5.toNatClampNeg))))), (q_t_py, .inl (cy 0, (200, .inl (upd t_py v4.toNatClampNeg (t_py v5.toNatClampNeg))))), (q_t_pz, .inl (cy 0, (200, .inl (upd t_pz v4.toNatClampNeg (t_pz v5.toNatClampNeg))))), (q_t_strip, .inl (cy 0, (200, .inl (upd t_strip v4.toNatClampNeg (t_strip v5.toNatClampNeg))))), (q_t_kind, .inl (cy 0, (200, .inl (upd t_kind v4.toNatClampNeg (t_kind v5.toNatClampNeg))))), (q_t_byHand, .inl (cy 0, (200, .inl (upd t_byHand v4.toNatClampNeg (t_byHand v5.toNatClampNeg))))), (q_t_round, .inl (cy 0, (200, .inl t_round)))] H := hP
                have hD : va_D A [(q_t, .inr (9, [.ref q_t_lanes, .ref q_t_sizes, .ref q_t_items, .ref q_t_spare, .ref q_t_many, .ref q_t_px, .ref q_t_py, .ref q_t_pz, .ref q_t_strip, .ref q_t_kind, .ref q_t_byHand, .ref q_t_round, .ref q_t_lost, .ref q_t_shifts, .ref q_t_matrix, .ref q_t_right, .ref q_t_found, .ref q_t_high, .int t_highs, .ref q_t_near, .ref q_t_cells, .ref q_t_part, .ref q_t_before, .ref q_t_tape, .int t_taped, .int t_at, .int t_fault, .int t_steps, .ref q_t_what, .ref q_t_numbers])), (q_t_lost, .inl (cy 1, (32, .inl t_lost))), (q_t_many, .inl (cy 0, (2, .inl t_many))), (q_t_px, .inl (cy 0, (200, .inl (upd t_px v4.toNatClampNeg (t_px v5.toNatClampNeg))))), (q_t_py, .inl (cy 0, (200, .inl (upd t_py v4.toNatClampNeg (t_py v5.toNatClampNeg))))), (q_t_pz, .inl (cy 0, (200, .inl (upd t_pz v4.toNatClampNeg (t_pz v5.toNatClampNeg))))), (q_t_strip, .inl (cy 0, (200, .inl (upd t_strip v4.toNatClampNeg (t_strip v5.toNatClampNeg))))), (q_t_kind, .inl (cy 0, (200, .inl (upd t_kind v4.toNatClampNeg (t_kind v5.toNatClampNeg))))), (q_t_byHand, .inl (cy 0, (200, .inl (upd t_byHand v4.toNatClampNeg (t_byHand v5.toNatClampNeg))))), (q_t_round, .inl (cy 0, (200, .inl t_round)))] := hD
                refine lv_aload_n hx hb dX9_lose_185 rfl (lv_at hl 0 rfl) ?_
                refine va_get (D := D) (ci := 9) (C := RX9) (T := TX9) (N := 30) hx hb hts hi_X9 hown hK hP 0 rfl rfl 11 (by decide) (hts (.fieldLink RX9 43 "RayGroundModel" "round" "[I") (List.mem_of_getElem? (i := 10) rfl)) (fun _ h9 => h9) rfl dX9_lose_186 ?_
                refine lv_iload hx hb dX9_lose_189 (lv_at hl 4 rfl) ?_
                refine lv_aload_n hx hb dX9_lose_191 rfl (lv_at hl 0 rfl) ?_
                refine va_get (D := D) (ci := 9) (C := RX9) (T := TX9) (N := 30) hx hb hts hi_X9 hown hK hP 0 rfl rfl 11 (by decide) (hts (.fieldLink RX9 43 "RayGroundModel" "round" "[I") (List.mem_of_getElem? (i := 10) rfl)) (fun _ h9 => h9) rfl dX9_lose_192 ?_
                refine lv_iload hx hb dX9_lose_195 (lv_at hl 5 rfl) ?_
                refine py_iald hx hb hK hP 9 0 rfl rfl (k := v5.toNatClampNeg) rfl h.1 dX9_lose_197 ?_
                have h := h.2
                refine py_iast hx hb hK hP hD hS 9 0 rfl rfl (k := v4.toNatClampNeg) rfl h.1 dX9_lose_198 (fun H locs hP hD hS => ?_)
                have h := h.2
                have hP : va_P D vwCl [(q_t, .inr (9, [.ref q_t_lanes, .ref q_t_sizes, .ref q_t_items, .ref q_t_spare, .ref q_t_many, .ref q_t_px, .ref q_t_py, .ref q_t_pz, .ref q_t_strip, .ref q_t_kind, .ref q_t_byHand, .ref q_t_round, .ref q_t_lost, .ref q_t_shifts, .ref q_t_matrix, .ref q_t_right, .ref q_t_found, .ref q_t_high, .int t_highs, .ref q_t_near, .ref q_t_cells, .ref q_t_part, .ref q_t_before, .ref q_t_tape, .int t_taped, .int t_at, .int t_fault, .int t_steps, .ref q_t_what, .ref q_t_numbers])), (q_t_lost, .inl (cy 1, (32, .inl t_lost))), (q_t_many, .inl (cy 0, (2, .inl t_many))), (q_t_px, .inl (cy 0, (200, .inl (upd t_px v4.toNatClampNeg (t_px v5.toNatClampNeg))))), (q_t_py, .inl (cy 0, (200, .inl (upd t_py v4.toNatClampNeg (t_py v5.toNatClampNeg))))), (q_t_pz, .inl (cy 0, (200, .inl (upd t_pz v4.toNatClampNeg (t_pz v5.toNatClampNeg))))), (q_t_strip, .inl (cy 0, (200, .inl (upd t_strip v4.toNatClampNeg (t_strip v5.toNatClampNeg))))), (q_t_kind, .inl (cy 0, (200, .inl (upd t_kind v4.toNatClampNeg (t_kind v5.toNatClampNeg))))), (q_t_byHand, .inl (cy 0, (200, .inl (upd t_byHand v4.toNatClampNeg (t_byHand v5.toNatClampNeg))))), (q_t_round, .inl (cy 0, (200, .inl (upd t_round v4.toNatClampNeg (t_round v5.toNatClampNeg)))))] H := hP
                have hD : va_D A [(q_t, .inr (9, [.ref q_t_lanes, .ref q_t_sizes, .ref q_t_items, .ref q_t_spare, .ref q_t_many, .ref q_t_px, .ref q_t_py, .ref q_t_pz, .ref q_t_strip, .ref q_t_kind, .ref q_t_byHand, .ref q_t_round, .ref q_t_lost, .ref q_t_shifts, .ref q_t_matrix, .ref q_t_right, .ref q_t_found, .ref q_t_high, .int t_highs, .ref q_t_near, .ref q_t_cells, .ref q_t_part, .ref q_t_before, .ref q_t_tape, .int t_taped, .int t_at, .int t_fault, .int t_steps, .ref q_t_what, .ref q_t_numbers])), (q_t_lost, .inl (cy 1, (32, .inl t_lost))), (q_t_many, .inl (cy 0, (2, .inl t_many))), (q_t_px, .inl (cy 0, (200, .inl (upd t_px v4.toNatClampNeg (t_px v5.toNatClampNeg))))), (q_t_py, .inl (cy 0, (200, .inl (upd t_py v4.toNatClampNeg (t_py v5.toNatClampNeg))))), (q_t_pz, .inl (cy 0, (200, .inl (upd t_pz v4.toNatClampNeg (t_pz v5.toNatClampNeg))))), (q_t_strip, .inl (cy 0, (200, .inl (upd t_strip v4.toNatClampNeg (t_strip v5.toNatClampNeg))))), (q_t_kind, .inl (cy 0, (200, .inl (upd t_kind v4.toNatClampNeg (t_kind v5.toNatClampNeg))))), (q_t_byHand, .inl (cy 0, (200, .inl (upd t_byHand v4.toNatClampNeg (t_byHand v5.toNatClampNeg))))), (q_t_round, .inl (cy 0, (200, .inl (upd t_round v4.toNatClampNeg (t_round v5.toNatClampNeg)))))] := hD
                obtain ⟨v4_5, ev4_5⟩ : ∃ y : Int32, y = v4 + (1 : Int32) := ⟨_, rfl⟩
                have h := h v4_5 ev4_5
                refine lv_iinc (v := v4_5) (lv' := [(4, .int v4_5), (0, .ref q_t), (1, .int v1), (2, .int v2), (3, .int v3), (5, .int v5)]) hx hb dX9_lose_199 hl (k := 4) rfl (by rw [ev4_5]; rfl) (by decide) rfl (fun ls hl => ?_)
                exact j202 (upd t_px v4.toNatClampNeg (t_px v5.toNatClampNeg)) (upd t_py v4.toNatClampNeg (t_py v5.toNatClampNeg)) (upd t_pz v4.toNatClampNeg (t_pz v5.toNatClampNeg)) (upd t_strip v4.toNatClampNeg (t_strip v5.toNatClampNeg)) (upd t_kind v4.toNatClampNeg (t_kind v5.toNatClampNeg)) (upd t_byHand v4.toNatClampNeg (t_byHand v5.toNatClampNeg)) (upd t_round v4.toNatClampNeg (t_round v5.toNatClampNeg)) v4_5 v5 _ _ hP hD hS _ (lv_sub hl [1, 2, 3, 4, 0, 5] rfl) h
        refine lv_aload_n hx hb dX9_lose_38 rfl (lv_at hl 0 rfl) ?_
        refine va_get (D := D) (ci := 9) (C := RX9) (T := TX9) (N := 30) hx hb hts hi_X9 hown hK hP 0 rfl rfl 12 (by decide) (hts (.fieldLink RX9 46 "RayGroundModel" "lost" "[Z") (List.mem_of_getElem? (i := 2) rfl)) (fun _ h9 => h9) rfl dX9_lose_39 ?_
        refine lv_bipush (v := (16 : Int32)) hx hb dX9_lose_42 (by decide) ?_
        refine lv_iload_n hx hb dX9_lose_44 rfl (lv_at hl 1 rfl) ?_
        refine lv_imul hx hb dX9_lose_45 ?_
        refine lv_iload_n hx hb dX9_lose_46 rfl (lv_at hl 2 rfl) ?_
        refine lv_iadd hx hb dX9_lose_47 ?_
        refine lv_iconst (v := (1 : Int32)) hx hb dX9_lose_48 (by decide) ?_
        refine py_zast hx hb hK hP hD hS 1 1 rfl rfl (k := (((16 : Int32) * a1) + a2).toNatClampNeg) (v := (1 : Int32)) rfl rfl h.1 dX9_lose_49 (fun H locs hP hD hS => ?_)
        have h := h.2
        have hP : va_P D vwCl [(q_t, .inr (9, [.ref q_t_lanes, .ref q_t_sizes, .ref q_t_items, .ref q_t_spare, .ref q_t_many, .ref q_t_px, .ref q_t_py, .ref q_t_pz, .ref q_t_strip, .ref q_t_kind, .ref q_t_byHand, .ref q_t_round, .ref q_t_lost, .ref q_t_shifts, .ref q_t_matrix, .ref q_t_right, .ref q_t_found, .ref q_t_high, .int t_highs, .ref q_t_near, .ref q_t_cells, .ref q_t_part, .ref q_t_before, .ref q_t_tape, .int t_taped, .int t_at, .int t_fault, .int t_steps, .ref q_t_what, .ref q_t_numbers])), (q_t_lost, .inl (cy 1, (32, .inl (upd t_lost ((((16 : Int32) * a1) + a2).toNatClampNeg) (1 : Int32))))), (q_t_many, .inl (cy 0, (2, .inl t_many))), (q_t_px, .inl (cy 0, (200, .inl t_px))), (q_t_py, .inl (cy 0, (200, .inl t_py))), (q_t_pz, .inl (cy 0, (200, .inl t_pz))), (q_t_strip, .inl (cy 0, (200, .inl t_strip))), (q_t_kind, .inl (cy 0, (200, .inl t_kind))), (q_t_byHand, .inl (cy 0, (200, .inl t_byHand))), (q_t_round, .inl (cy 0, (200, .inl t_round)))] H := hP
        have hD : va_D A [(q_t, .inr (9, [.ref q_t_lanes, .ref q_t_sizes, .ref q_t_items, .ref q_t_spare, .ref q_t_many, .ref q_t_px, .ref q_t_py, .ref q_t_pz, .ref q_t_strip, .ref q_t_kind, .ref q_t_byHand, .ref q_t_round, .ref q_t_lost, .ref q_t_shifts, .ref q_t_matrix, .ref q_t_right, .ref q_t_found, .ref q_t_high, .int t_highs, .ref q_t_near, .ref q_t_cells, .ref q_t_part, .ref q_t_before, .ref q_t_tape, .int t_taped, .int t_at, .int t_fault, .int t_steps, .ref q_t_what, .ref q_t_numbers])), (q_t_lost, .inl (cy 1, (32, .inl (upd t_lost ((((16 : Int32) * a1) + a2).toNatClampNeg) (1 : Int32))))), (q_t_many, .inl (cy 0, (2, .inl t_many))), (q_t_px, .inl (cy 0, (200, .inl t_px))), (q_t_py, .inl (cy 0, (200, .inl t_py))), (q_t_pz, .inl (cy 0, (200, .inl t_pz))), (q_t_strip, .inl (cy 0, (200, .inl t_strip))), (q_t_kind, .inl (cy 0, (200, .inl t_kind))), (q_t_byHand, .inl (cy 0, (200, .inl t_byHand))), (q_t_round, .inl (cy 0, (200, .inl t_round)))] := hD
        refine lv_aload_n hx hb dX9_lose_50 rfl (lv_at hl 0 rfl) ?_
        refine va_get (D := D) (ci := 9) (C := RX9) (T := TX9) (N := 30) hx hb hts hi_X9 hown hK hP 0 rfl rfl 4 (by decide) (hts (.fieldLink RX9 22 "RayGroundModel" "many" "[I") (List.mem_of_getElem? (i := 3) rfl)) (fun _ h9 => h9) rfl dX9_lose_51 ?_
        refine lv_iload_n hx hb dX9_lose_54 rfl (lv_at hl 1 rfl) ?_
        refine py_iald hx hb hK hP 2 0 rfl rfl (k := a1.toNatClampNeg) rfl h.1 dX9_lose_55 ?_
        have h := h.2
        refine lv_topi (fun v3_6 ev3_6 => ?_)
        have h := h v3_6 ev3_6
        refine lv_istore_n (lv' := [(3, .int v3_6), (0, .ref q_t), (1, .int a1), (2, .int a2)]) hx hb dX9_lose_56 rfl hl (by decide) rfl (fun ls hl => ?_)
        refine lv_bipush (v := (100 : Int32)) hx hb dX9_lose_57 (by decide) ?_
        refine lv_iload_n hx hb dX9_lose_59 rfl (lv_at hl 2 rfl) ?_
        refine lv_imul hx hb dX9_lose_60 ?_
        refine lv_topi (fun v4_7 ev4_7 => ?_)
        have h := h v4_7 ev4_7
        refine lv_istore (lv' := [(4, .int v4_7), (3, .int v3_6), (0, .ref q_t), (1, .int a1), (2, .int a2)]) hx hb dX9_lose_61 hl (by decide) rfl (fun ls hl => ?_)
        refine lv_bipush (v := (100 : Int32)) hx hb dX9_lose_63 (by decide) ?_
        refine lv_iload_n hx hb dX9_lose_65 rfl (lv_at hl 3 rfl) ?_
        refine lv_imul hx hb dX9_lose_66 ?_
        refine lv_topi (fun v5_8 ev5_8 => ?_)
        have h := h v5_8 ev5_8
        refine lv_istore (lv' := [(5, .int v5_8), (4, .int v4_7), (3, .int v3_6), (0, .ref q_t), (1, .int a1), (2, .int a2)]) hx hb dX9_lose_67 hl (by decide) rfl (fun ls hl => ?_)
        obtain ⟨n, h⟩ := h
        exact lp69 (upd t_lost ((((16 : Int32) * a1) + a2).toNatClampNeg) (1 : Int32)) t_many a1 a2 v3_6 n t_px t_py t_pz t_strip t_kind t_byHand t_round v4_7 v5_8 _ _ hP hD hS _ (lv_sub hl [3, 4, 5, 2, 1, 0] rfl) h
      · have h := h.2 c_
        refine lv_bipush (v := (-2 : Int32)) hx hb dX9_lose_35 (by decide) ?_
        exact W.iret (v := (-2 : Int32)) hx hb hr (fun t ht hW => ⟨⟨(-2 : Int32), (t_lost, t_many, t_px, t_py, t_pz, t_strip, t_kind, t_byHand, t_round), rfl, h, by rw [ht]; exact hP, hD⟩, hS.F ht⟩) hS.2.2 dX9_lose_37
    · have h := h.1 c_
      refine lv_iconst (v := (-1 : Int32)) hx hb dX9_lose_19 (by decide) ?_
      exact W.iret (v := (-1 : Int32)) hx hb hr (fun t ht hW => ⟨⟨(-1 : Int32), (t_lost, t_many, t_px, t_py, t_pz, t_strip, t_kind, t_byHand, t_round), rfl, h, by rw [ht]; exact hP, hD⟩, hS.F ht⟩) hS.2.2 dX9_lose_20
set_option maxHeartbeats 4000000 in
set_option maxRecDepth 100000 in
theorem c_X9_box (l : Launch) (D : va_G) (cy : Nat → ClassId) (q_t_lanes q_t_sizes q_t_items q_t_spare q_t_many q_t_px q_t_py q_t_pz q_t_strip q_t_kind q_t_byHand q_t_round q_t_lost q_t_shifts q_t_matrix q_t_right q_t_found q_t_high q_t_near q_t_cells q_t_part q_t_before q_t_tape q_t_what q_t_numbers q_t : Nat) (t_highs : Int32) (t_taped : Int32) (t_at : Int32) (t_fault : Int32) (t_steps : Int32) (t_lost : Nat → Int32) (t_many : Nat → Int32) (t_px : Nat → Int32) (t_py : Nat → Int32) (a1 : Int32) (a2 : Int32) (a3 : Int32) (a4 : Int32) (a5 : Int32) (Q : Int32 → Prop) (h : wp_X9_box t_lost t_many t_px t_py a1 a2 a3 a4 a5 Q) : Met l yX9_box wsX9_box ({ frames := 2, cells := 0, slots := 0, locals := 45 } : Room) (py_Pp ([.ref q_t, .int a1, .int a2, .int a3, .int a4, .int a5] : List Value) D cy [(q_t, .inr (9, [.ref q_t_lanes, .ref q_t_sizes, .ref q_t_items, .ref q_t_spare, .ref q_t_many, .ref q_t_px, .ref q_t_py, .ref q_t_pz, .ref q_t_strip, .ref q_t_kind, .ref q_t_byHand, .ref q_t_round, .ref q_t_lost, .ref q_t_shifts, .ref q_t_matrix, .ref q_t_right, .ref q_t_found, .ref q_t_high, .int t_highs, .ref q_t_near, .ref q_t_cells, .ref q_t_part, .ref q_t_before, .ref q_t_tape, .int t_taped, .int t_at, .int t_fault, .int t_steps, .ref q_t_what, .ref q_t_numbers])), (q_t_lost, .inl (cy 1, (32, .inl t_lost))), (q_t_many, .inl (cy 0, (2, .inl t_many))), (q_t_px, .inl (cy 0, (200, .inl t_px))), (q_t_py, .inl (cy 0, (200, .inl t_py)))]) (vp_Si Q) 0 0 (fun _ => False) := by
  refine Met.ofW (cc := cX9_box) (maxL := 8) (ret := (some .int)) (by decide) rfl ?_
  intro p e s m args below meth c s₁ B hml hv
  obtain ⟨rfl, hP, hKK⟩ := hv
  have hK := hKK.1
  have hN := hKK.2
  have hx := B.exec
  have hb := B.bytes
  have hr := B.returns
  have hts := atoms_spec (ws := wsX9_box) B.pre
  have hown : s.vm.findClass RX9 = some m.cls := findClass_of_methodNamed B.named
  have hlocks := B.notSynchronized
  have hi_X9 : ∀ w ∈ wsX90, w ∈ wsX9_box := fun w h => List.mem_cons_of_mem _ (List.mem_append_right _ (h))
  have hl := lv_entry ([.ref q_t, .int a1, .int a2, .int a3, .int a4, .int a5] : List Value) (n := 8) (Nat.le_of_ble_eq_true rfl)
  rw [lg_entry_eq]
  generalize (lg_sl ([.ref q_t, .int a1, .int a2, .int a3, .int a4, .int a5] : List Value) ++ List.replicate (8 - (lg_sl ([.ref q_t, .int a1, .int a2, .int a3, .int a4, .int a5] : List Value)).length) Slot.unset).toArray = ls at hl ⊢
  have hl : lv_has ls 8 [(0, .ref q_t), (1, .int a1), (2, .int a2), (3, .int a3), (4, .int a4), (5, .int a5)] := hl
  unfold wp_X9_box at h
  refine lv_iload_n hx hb dX9_box_0 rfl (lv_at hl 1 rfl) ?_
  refine py_ci (py_rSp (As := [.int a1]) ⟨hx, hb, hml, hown, hts⟩ hKK hP [] rfl (c_X9_isYear l D cy a1 _ h) (va_cwS 1 hts gX9_box_X9_isYear rfl rfl rfl cd_X9_isYear ⟨Nat.le_of_ble_eq_true rfl, Nat.le_of_ble_eq_true rfl⟩) rfl hl.1 rfl (Nat.le_of_ble_eq_true rfl) ⟨Nat.zero_le _, Nat.zero_le _⟩ dX9_box_1) (fun r_1 h => ?_)
  refine lv_if_eq (tgt := 59) hx hb dX9_box_4 (by decide) (fun c_ => ?_) (fun c_ => ?_)
  · have h := h.1 c_
    refine lv_iconst (v := (-1 : Int32)) hx hb dX9_box_59 (by decide) ?_
    exact W.iret (v := (-1 : Int32)) hx hb hr (fun t ht hW => ⟨(-1 : Int32), rfl, h, ht⟩) (fun _ hq => by cases hq) dX9_box_60
  · have h := h.2 c_
    refine lv_iload_n hx hb dX9_box_7 rfl (lv_at hl 2 rfl) ?_
    refine lv_i2l (v := (a2.toInt64)) hx hb dX9_box_8 rfl ?_
    refine lv_lconst (v := (0 : Int64)) hx hb dX9_box_9 (by decide) ?_
    refine lv_ldc2 (v := (63 : Int64)) hx hb hown (hts (.constantLong RX9 107 (63)) (List.mem_of_getElem? (i := 1) rfl)) dX9_box_10 ?_
    refine py_ci (py_rSp (As := [.long (a2.toInt64), .long (0 : Int64), .long (63 : Int64)]) ⟨hx, hb, hml, hown, hts⟩ hKK hP [] rfl (c_X9_in l D cy (a2.toInt64) (0 : Int64) (63 : Int64) _ h) (va_cwS 3 hts gX9_box_X9_in rfl rfl rfl cd_X9_in ⟨Nat.le_of_ble_eq_true rfl, Nat.le_of_ble_eq_true rfl⟩) rfl hl.1 rfl (Nat.le_of_ble_eq_true rfl) ⟨Nat.zero_le _, Nat.zero_le _⟩ dX9_box_13) (fun r_2 h => ?_)
    refine lv_if_eq (tgt := 59) hx hb dX9_box_16 (by decide) (fun c_ => ?_) (fun c_ => ?_)
    · have h := h.1 c_
      refine lv_iconst (v := (-1 : Int32)) hx hb dX9_box_59 (by decide) ?_
      exact W.iret (v := (-1 : Int32)) hx hb hr (fun t ht hW => ⟨(-1 : Int32), rfl, h, ht⟩) (fun _ hq => by cases hq) dX9_box_60
    · have h := h.2 c_
      refine lv_iload_n hx hb dX9_box_19 rfl (lv_at hl 3 rfl) ?_
      refine lv_i2l (v := (a3.toInt64)) hx hb dX9_box_20 rfl ?_
      refine lv_lconst (v := (0 : Int64)) hx hb dX9_box_21 (by decide) ?_
      refine lv_ldc2 (v := (63 : Int64)) hx hb hown (hts (.constantLong RX9 107 (63)) (List.mem_of_getElem? (i := 1) rfl)) dX9_box_22 ?_
      refine py_ci (py_rSp (As := [.long (a3.toInt64), .long (0 : Int64), .long (63 : Int64)]) ⟨hx, hb, hml, hown, hts⟩ hKK hP [] rfl (c_X9_in l D cy (a3.toInt64) (0 : Int64) (63 : Int64) _ h) (va_cwS 3 hts gX9_box_X9_in rfl rfl rfl cd_X9_in ⟨Nat.le_of_ble_eq_true rfl, Nat.le_of_ble_eq_true rfl⟩) rfl hl.1 rfl (Nat.le_of_ble_eq_true rfl) ⟨Nat.zero_le _, Nat.zero_le _⟩ dX9_box_25) (fun r_3 h => ?_)
      refine lv_if_eq (tgt := 59) hx hb dX9_box_28 (by decide) (fun c_ => ?_) (fun c_ => ?_)
      · have h := h.1 c_
        refine lv_iconst (v := (-1 : Int32)) hx hb dX9_box_59 (by decide) ?_
        exact W.iret (v := (-1 : Int32)) hx hb hr (fun t ht hW => ⟨(-1 : Int32), rfl, h, ht⟩) (fun _ hq => by cases hq) dX9_box_60
      · have h := h.2 c_
        refine lv_iload hx hb dX9_box_31 (lv_at hl 4 rfl) ?_
        refine lv_i2l (v := (a4.toInt64)) hx hb dX9_box_33 rfl ?_
        refine lv_iload_n hx hb dX9_box_34 rfl (lv_at hl 2 rfl) ?_
        refine lv_i2l (v := (a2.toInt64)) hx hb dX9_box_35 rfl ?_
        refine lv_ldc2 (v := (63 : Int64)) hx hb hown (hts (.constantLong RX9 107 (63)) (List.mem_of_getElem? (i := 1) rfl)) dX9_box_36 ?_
        refine py_ci (py_rSp (As := [.long (a4.toInt64), .long (a2.toInt64), .long (63 : Int64)]) ⟨hx, hb, hml, hown, hts⟩ hKK hP [] rfl (c_X9_in l D cy (a4.toInt64) (a2.toInt64) (63 : Int64) _ h) (va_cwS 3 hts gX9_box_X9_in rfl rfl rfl cd_X9_in ⟨Nat.le_of_ble_eq_true rfl, Nat.le_of_ble_eq_true rfl⟩) rfl hl.1 rfl (Nat.le_of_ble_eq_true rfl) ⟨Nat.zero_le _, Nat.zero_le _⟩ dX9_box_39) (fun r_4 h => ?_)
        refine lv_if_eq (tgt := 59) hx hb dX9_box_42 (by decide) (fun c_ => ?_) (fun c_ => ?_)
        · have h := h.1 c_
          refine lv_iconst (v := (-1 : Int32)) hx hb dX9_box_59 (by decide) ?_
          exact W.iret (v := (-1 : Int32)) hx hb hr (fun t ht hW => ⟨(-1 : Int32), rfl, h, ht⟩) (fun _ hq => by cases hq) dX9_box_60
        · have h := h.2 c_
          refine lv_iload hx hb dX9_box_45 (lv_at hl 5 rfl) ?_
          refine lv_i2l (v := (a5.toInt64)) hx hb dX9_box_47 rfl ?_
          refine lv_iload_n hx hb dX9_box_48 rfl (lv_at hl 3 rfl) ?_
          refine lv_i2l (v := (a3.toInt64)) hx hb dX9_box_49 rfl ?_
          refine lv_ldc2 (v := (63 : Int64)) hx hb hown (hts (.constantLong RX9 107 (63)) (List.mem_of_getElem? (i := 1) rfl)) dX9_box_50 ?_
          refine py_ci (py_rSp (As := [.long (a5.toInt64), .long (a3.toInt64), .long (63 : Int64)]) ⟨hx, hb, hml, hown, hts⟩ hKK hP [] rfl (c_X9_in l D cy (a5.toInt64) (a3.toInt64) (63 : Int64) _ h) (va_cwS 3 hts gX9_box_X9_in rfl rfl rfl cd_X9_in ⟨Nat.le_of_ble_eq_true rfl, Nat.le_of_ble_eq_true rfl⟩) rfl hl.1 rfl (Nat.le_of_ble_eq_true rfl) ⟨Nat.zero_le _, Nat.zero_le _⟩ dX9_box_53) (fun r_5 h => ?_)
          refine lv_if_ne (tgt := 61) hx hb dX9_box_56 (by decide) (fun c_ => ?_) (fun c_ => ?_)
          · have h := h.2 c_
            have j128 : ∀ (v1 : Int32) (v2 : Int32) (v3 : Int32) (v4 : Int32) (v5 : Int32) (ls : Array Slot), lv_has ls 8 [(0, .ref q_t), (1, .int v1), (2, .int v2), (3, .int v3), (4, .int v4), (5, .int v5)] → wp_X9_box_b128 Q t_many t_px t_py v1 v2 v3 v4 v5 → W p l e (headSpec wsX9_box ({ frames := 2, cells := 0, slots := 0, locals := 45 } : Room)).room s m (([.ref q_t, .int a1, .int a2, .int a3, .int a4, .int a5] : List Value)).toArray below meth c s.heap [] 0 0 (MQ below (vp_Si Q) (([.ref q_t, .int a1, .int a2, .int a3, .int a4, .int a5] : List Value)).toArray s 0 0 (fun _ => False)) (F0 m 128 ls []) := by
              intro v1 v2 v3 v4 v5 ls hl h
              unfold wp_X9_box_b128 at h
              have lp137 : ∀ (v1 : Int32) (v2 : Int32) (v3 : Int32) (v4 : Int32) (v5 : Int32) (n137 : Nat) (v6 : Int32) (v7 : Int32) (ls : Array Slot), lv_has ls 8 [(0, .ref q_t), (1, .int v1), (2, .int v2), (3, .int v3), (4, .int v4), (5, .int v5), (6, .int v6), (7, .int v7)] → wp_X9_box_b137 Q t_many t_px t_py v1 v2 v3 v4 v5 n137 v6 v7 → W p l e (headSpec wsX9_box ({ frames := 2, cells := 0, slots := 0, locals := 45 } : Room)).room s m (([.ref q_t, .int a1, .int a2, .int a3, .int a4, .int a5] : List Value)).toArray below meth c s.heap [] 0 0 (MQ below (vp_Si Q) (([.ref q_t, .int a1, .int a2, .int a3, .int a4, .int a5] : List Value)).toArray s 0 0 (fun _ => False)) (F0 m 137 ls []) := by
                intro v1 v2 v3 v4 v5 n137
                induction n137 with
                | zero => intro v6 v7 ls hl h; exact False.elim h
                | succ n137 ih137 =>
                  intro v6 v7 ls hl h
                  have h : wp_X9_box_b137_f (wp_X9_box_b137 Q t_many t_px t_py v1 v2 v3 v4 v5 n137) Q t_many t_px t_py v1 v2 v3 v4 v5 v6 v7 := h
                  unfold wp_X9_box_b137_f at h
                  refine lv_iload hx hb dX9_box_137 (lv_at hl 7 rfl) ?_
                  refine lv_aload_n hx hb dX9_box_139 rfl (lv_at hl 0 rfl) ?_
                  refine lv_iload_n hx hb dX9_box_140 rfl (lv_at hl 1 rfl) ?_
                  refine py_ci (py_rVp (As := [.int v1]) ⟨hx, hb, hml, hown, hts⟩ hKK hP [0, 2] rfl 0 9 rfl rfl (c_X9_endOf l D cy q_t_lanes q_t_sizes q_t_items q_t_spare q_t_many q_t_px q_t_py q_t_pz q_t_strip q_t_kind q_t_byHand q_t_round q_t_lost q_t_shifts q_t_matrix q_t_right q_t_found q_t_high q_t_near q_t_cells q_t_part q_t_before q_t_tape q_t_what q_t_numbers q_t t_highs t_taped t_at t_fault t_steps t_many v1 _ h) (cwV 1 hts gX9_box_X9_endOf rfl rfl rfl cdv_X9_endOf ⟨Nat.le_of_ble_eq_true rfl, Nat.le_of_ble_eq_true rfl⟩) rfl hl.1 rfl (Nat.le_of_ble_eq_true rfl) ⟨Nat.zero_le _, Nat.zero_le _⟩ dX9_box_141) (fun r_6 h => ?_)
                  refine lv_icmp_ge (tgt := 201) hx hb dX9_box_144 (by decide) (fun c_ => ?_) (fun c_ => ?_)
                  · have h := h.1 c_
                    refine lv_iload hx hb dX9_box_201 (lv_at hl 6 rfl) ?_
                    exact W.iret (v := v6) hx hb hr (fun t ht hW => ⟨v6, rfl, h, ht⟩) (fun _ hq => by cases hq) dX9_box_203
                  · have h := h.2 c_
                    have j192 : ∀ (v7 : Int32) (s0 : Int32) (s1 : Int32) (ls : Array Slot), lv_has ls 8 [(0, .ref q_t), (1, .int v1), (2, .int v2), (3, .int v3), (4, .int v4), (5, .int v5), (7, .int v7)] → wp_X9_box_b192 (wp_X9_box_b137 Q t_many t_px t_py v1 v2 v3 v4 v5 n137) v7 s0 s1 → W p l e (headSpec wsX9_box ({ frames := 2, cells := 0, slots := 0, locals := 45 } : Room)).room s m (([.ref q_t, .int a1, .int a2, .int a3, .int a4, .int a5] : List Value)).toArray below meth c s.heap [] 0 0 (MQ below (vp_Si Q) (([.ref q_t, .int a1, .int a2, .int a3, .int a4, .int a5] : List Value)).toArray s 0 0 (fun _ => False)) (F0 m 192 ls [.int s1, .int s0]) := by
                      intro v7 s0 s1 ls hl h
                      unfold wp_X9_box_b192 at h
                      refine lv_iadd hx hb dX9_box_192 ?_
                      refine lv_topi (fun v6_7 ev6_7 => ?_)
                      have h := h v6_7 ev6_7
                      refine lv_istore (lv' := [(6, .int v6_7), (0, .ref q_t), (1, .int v1), (2, .int v2), (3, .int v3), (4, .int v4), (5, .int v5), (7, .int v7)]) hx hb dX9_box_193 hl (by decide) rfl (fun ls hl => ?_)
                      obtain ⟨v7_8, ev7_8⟩ : ∃ y : Int32, y = v7 + (1 : Int32) := ⟨_, rfl⟩
                      have h := h v7_8 ev7_8
                      refine lv_iinc (v := v7_8) (lv' := [(7, .int v7_8), (6, .int v6_7), (0, .ref q_t), (1, .int v1), (2, .int v2), (3, .int v3), (4, .int v4), (5, .int v5)]) hx hb dX9_box_195 hl (k := 7) rfl (by rw [ev7_8]; rfl) (by decide) rfl (fun ls hl => ?_)
                      refine lv_goto (tgt := 137) hx hb dX9_box_198 (by decide) ?_
                      exact ih137 v6_7 v7_8 _ (lv_sub hl [2, 3, 4, 5, 6, 7, 1, 0] rfl) h
                    have j191 : ∀ (v7 : Int32) (s0 : Int32) (ls : Array Slot), lv_has ls 8 [(0, .ref q_t), (1, .int v1), (2, .int v2), (3, .int v3), (4, .int v4), (5, .int v5), (7, .int v7)] → wp_X9_box_b191 (wp_X9_box_b137 Q t_many t_px t_py v1 v2 v3 v4 v5 n137) v7 s0 → W p l e (headSpec wsX9_box ({ frames := 2, cells := 0, slots := 0, locals := 45 } : Room)).room s m (([.ref q_t, .int a1, .int a2, .int a3, .int a4, .int a5] : List Value)).toArray below meth c s.heap [] 0 0 (MQ below (vp_Si Q) (([.ref q_t, .int a1, .int a2, .int a3, .int a4, .int a5] : List Value)).toArray s 0 0 (fun _ => False)) (F0 m 191 ls [.int s0]) := by
                      intro v7 s0 ls hl h
                      unfold wp_X9_box_b191 at h
                      refine lv_iconst (v := (0 : Int32)) hx hb dX9_box_191 (by decide) ?_
                      exact j192 v7 s0 (0 : Int32) _ hl h
                    refine lv_iload hx hb dX9_box_147 (lv_at hl 6 rfl) ?_
                    refine lv_aload_n hx hb dX9_box_149 rfl (lv_at hl 0 rfl) ?_
                    refine va_get (D := D) (ci := 9) (C := RX9) (T := TX9) (N := 30) hx hb hts hi_X9 hown hK hP 0 rfl rfl 5 (by decide) (hts (.fieldLink RX9 25 "RayGroundModel" "px" "[I") (List.mem_of_getElem? (i := 3) rfl)) (fun _ h9 => h9) rfl dX9_box_150 ?_
                    refine lv_iload hx hb dX9_box_153 (lv_at hl 7 rfl) ?_
                    refine py_iald hx hb hK hP 3 0 rfl rfl (k := v7.toNatClampNeg) rfl h.1 dX9_box_155 ?_
                    have h := h.2
                    refine lv_i2l (v := ((t_px v7.toNatClampNeg).toInt64)) hx hb dX9_box_156 rfl ?_
                    refine lv_iload_n hx hb dX9_box_157 rfl (lv_at hl 2 rfl) ?_
                    refine lv_i2l (v := (v2.toInt64)) hx hb dX9_box_158 rfl ?_
                    refine lv_iload hx hb dX9_box_159 (lv_at hl 4 rfl) ?_
                    refine lv_i2l (v := (v4.toInt64)) hx hb dX9_box_161 rfl ?_
                    refine py_ci (py_rSp (As := [.long ((t_px v7.toNatClampNeg).toInt64), .long (v2.toInt64), .long (v4.toInt64)]) ⟨hx, hb, hml, hown, hts⟩ hKK hP [] rfl (c_X9_in l D cy ((t_px v7.toNatClampNeg).toInt64) (v2.toInt64) (v4.toInt64) _ h) (va_cwS 3 hts gX9_box_X9_in rfl rfl rfl cd_X9_in ⟨Nat.le_of_ble_eq_true rfl, Nat.le_of_ble_eq_true rfl⟩) rfl hl.1 rfl (Nat.le_of_ble_eq_true rfl) ⟨Nat.zero_le _, Nat.zero_le _⟩ dX9_box_162) (fun r_9 h => ?_)
                    refine lv_if_eq (tgt := 191) hx hb dX9_box_165 (by decide) (fun c_ => ?_) (fun c_ => ?_)
                    · have h := h.1 c_
                      exact j191 v7 v6 _ (lv_sub hl [0, 1, 2, 3, 4, 5, 7] rfl) h
                    · have h := h.2 c_
                      refine lv_aload_n hx hb dX9_box_168 rfl (lv_at hl 0 rfl) ?_
                      refine va_get (D := D) (ci := 9) (C := RX9) (T := TX9) (N := 30) hx hb hts hi_X9 hown hK hP 0 rfl rfl 6 (by decide) (hts (.fieldLink RX9 28 "RayGroundModel" "py" "[I") (List.mem_of_getElem? (i := 4) rfl)) (fun _ h9 => h9) rfl dX9_box_169 ?_
                      refine lv_iload hx hb dX9_box_172 (lv_at hl 7 rfl) ?_
                      refine py_iald hx hb hK hP 4 0 rfl rfl (k := v7.toNatClampNeg) rfl h.1 dX9_box_174 ?_
                      have h := h.2
                      refine lv_i2l (v := ((t_py v7.toNatClampNeg).toInt64)) hx hb dX9_box_175 rfl ?_
                      refine lv_iload_n hx hb dX9_box_176 rfl (lv_at hl 3 rfl) ?_
                      refine lv_i2l (v := (v3.toInt64)) hx hb dX9_box_177 rfl ?_
                      refine lv_iload hx hb dX9_box_178 (lv_at hl 5 rfl) ?_
                      refine lv_i2l (v := (v5.toInt64)) hx hb dX9_box_180 rfl ?_
                      refine py_ci (py_rSp (As := [.long ((t_py v7.toNatClampNeg).toInt64), .long (v3.toInt64), .long (v5.toInt64)]) ⟨hx, hb, hml, hown, hts⟩ hKK hP [] rfl (c_X9_in l D cy ((t_py v7.toNatClampNeg).toInt64) (v3.toInt64) (v5.toInt64) _ h) (va_cwS 3 hts gX9_box_X9_in rfl rfl rfl cd_X9_in ⟨Nat.le_of_ble_eq_true rfl, Nat.le_of_ble_eq_true rfl⟩) rfl hl.1 rfl (Nat.le_of_ble_eq_true rfl) ⟨Nat.zero_le _, Nat.zero_le _⟩ dX9_box_181) (fun r_10 h => ?_)
                      refine lv_if_eq (tgt := 191) hx hb dX9_box_184 (by decide) (fun c_ => ?_) (fun c_ => ?_)
                      · have h := h.1 c_
                        exact j191 v7 v6 _ (lv_sub hl [0, 1, 2, 3, 4, 5, 7] rfl) h
                      · have h := h.2 c_
                        refine lv_iconst (v := (1 : Int32)) hx hb dX9_box_187 (by decide) ?_
                        refine lv_goto (tgt := 192) hx hb dX9_box_188 (by decide) ?_
                        exact j192 v7 v6 (1 : Int32) _ (lv_sub hl [0, 1, 2, 3, 4, 5, 7] rfl) h
              refine lv_iconst (v := (0 : Int32)) hx hb dX9_box_128 (by decide) ?_
              refine lv_istore (lv' := [(6, .int (0 : Int32)), (0, .ref q_t), (1, .int v1), (2, .int v2), (3, .int v3), (4, .int v4), (5, .int v5)]) hx hb dX9_box_129 hl (by decide) rfl (fun ls hl => ?_)
              refine lv_bipush (v := (100 : Int32)) hx hb dX9_box_131 (by decide) ?_
              refine lv_iload_n hx hb dX9_box_133 rfl (lv_at hl 2 rfl) ?_
              refine lv_imul hx hb dX9_box_134 ?_
              refine lv_topi (fun v7_11 ev7_11 => ?_)
              have h := h v7_11 ev7_11
              refine lv_istore (lv' := [(7, .int v7_11), (6, .int (0 : Int32)), (0, .ref q_t), (1, .int v1), (2, .int v2), (3, .int v3), (4, .int v4), (5, .int v5)]) hx hb dX9_box_135 hl (by decide) rfl (fun ls hl => ?_)
              obtain ⟨n, h⟩ := h
              exact lp137 v1 v2 v3 v4 v5 n (0 : Int32) v7_11 _ (lv_sub hl [2, 3, 4, 5, 6, 7, 1, 0] rfl) h
            have lp67 : ∀ (v1 : Int32) (v2 : Int32) (v3 : Int32) (v4 : Int32) (v5 : Int32) (n67 : Nat) (v6 : Int32) (ls : Array Slot), lv_has ls 8 [(0, .ref q_t), (1, .int v1), (2, .int v2), (3, .int v3), (4, .int v4), (5, .int v5), (6, .int v6)] → wp_X9_box_b67 (wp_X9_box_b128 Q t_many t_px t_py) Q t_lost v1 v2 v3 v4 v5 n67 v6 → W p l e (headSpec wsX9_box ({ frames := 2, cells := 0, slots := 0, locals := 45 } : Room)).room s m (([.ref q_t, .int a1, .int a2, .int a3, .int a4, .int a5] : List Value)).toArray below meth c s.heap [] 0 0 (MQ below (vp_Si Q) (([.ref q_t, .int a1, .int a2, .int a3, .int a4, .int a5] : List Value)).toArray s 0 0 (fun _ => False)) (F0 m 67 ls []) := by
              intro v1 v2 v3 v4 v5 n67
              induction n67 with
              | zero => intro v6 ls hl h; exact False.elim h
              | succ n67 ih67 =>
                intro v6 ls hl h
                have h : wp_X9_box_b67_f (wp_X9_box_b67 (wp_X9_box_b128 Q t_many t_px t_py) Q t_lost v1 v2 v3 v4 v5 n67) (wp_X9_box_b128 Q t_many t_px t_py) Q t_lost v1 v2 v3 v4 v5 v6 := h
                unfold wp_X9_box_b67_f at h
                refine lv_iload hx hb dX9_box_67 (lv_at hl 6 rfl) ?_
                refine lv_iload hx hb dX9_box_69 (lv_at hl 4 rfl) ?_
                refine lv_bipush (v := (16 : Int32)) hx hb dX9_box_71 (by decide) ?_
                refine lv_idiv hx hb dX9_box_73 (by decide) ?_
                refine lv_icmp_gt (tgt := 128) hx hb dX9_box_74 (by decide) (fun c_ => ?_) (fun c_ => ?_)
                · have h := h.1 c_
                  exact j128 v1 v2 v3 v4 v5 _ (lv_sub hl [0, 1, 2, 3, 4, 5] rfl) h
                · have h := h.2 c_
                  have j122 : ∀ (v6 : Int32) (ls : Array Slot), lv_has ls 8 [(0, .ref q_t), (1, .int v1), (2, .int v2), (3, .int v3), (4, .int v4), (5, .int v5), (6, .int v6)] → wp_X9_box_b122 (wp_X9_box_b67 (wp_X9_box_b128 Q t_many t_px t_py) Q t_lost v1 v2 v3 v4 v5 n67) v6 → W p l e (headSpec wsX9_box ({ frames := 2, cells := 0, slots := 0, locals := 45 } : Room)).room s m (([.ref q_t, .int a1, .int a2, .int a3, .int a4, .int a5] : List Value)).toArray below meth c s.heap [] 0 0 (MQ below (vp_Si Q) (([.ref q_t, .int a1, .int a2, .int a3, .int a4, .int a5] : List Value)).toArray s 0 0 (fun _ => False)) (F0 m 122 ls []) := by
                    intro v6 ls hl h
                    unfold wp_X9_box_b122 at h
                    obtain ⟨v6_12, ev6_12⟩ : ∃ y : Int32, y = v6 + (1 : Int32) := ⟨_, rfl⟩
                    have h := h v6_12 ev6_12
                    refine lv_iinc (v := v6_12) (lv' := [(6, .int v6_12), (0, .ref q_t), (1, .int v1), (2, .int v2), (3, .int v3), (4, .int v4), (5, .int v5)]) hx hb dX9_box_122 hl (k := 6) rfl (by rw [ev6_12]; rfl) (by decide) rfl (fun ls hl => ?_)
                    refine lv_goto (tgt := 67) hx hb dX9_box_125 (by decide) ?_
                    exact ih67 v6_12 _ (lv_sub hl [1, 2, 3, 4, 5, 6, 0] rfl) h
                  have lp83 : ∀ (v6 : Int32) (n83 : Nat) (v7 : Int32) (ls : Array Slot), lv_has ls 8 [(0, .ref q_t), (1, .int v1), (2, .int v2), (3, .int v3), (4, .int v4), (5, .int v5), (6, .int v6), (7, .int v7)] → wp_X9_box_b83 (wp_X9_box_b122 (wp_X9_box_b67 (wp_X9_box_b128 Q t_many t_px t_py) Q t_lost v1 v2 v3 v4 v5 n67)) Q t_lost v1 v5 v6 n83 v7 → W p l e (headSpec wsX9_box ({ frames := 2, cells := 0, slots := 0, locals := 45 } : Room)).room s m (([.ref q_t, .int a1, .int a2, .int a3, .int a4, .int a5] : List Value)).toArray below meth c s.heap [] 0 0 (MQ below (vp_Si Q) (([.ref q_t, .int a1, .int a2, .int a3, .int a4, .int a5] : List Value)).toArray s 0 0 (fun _ => False)) (F0 m 83 ls []) := by
                    intro v6 n83
                    induction n83 with
                    | zero => intro v7 ls hl h; exact False.elim h
                    | succ n83 ih83 =>
                      intro v7 ls hl h
                      have h : wp_X9_box_b83_f (wp_X9_box_b83 (wp_X9_box_b122 (wp_X9_box_b67 (wp_X9_box_b128 Q t_many t_px t_py) Q t_lost v1 v2 v3 v4 v5 n67)) Q t_lost v1 v5 v6 n83) (wp_X9_box_b122 (wp_X9_box_b67 (wp_X9_box_b128 Q t_many t_px t_py) Q t_lost v1 v2 v3 v4 v5 n67)) Q t_lost v1 v5 v6 v7 := h
                      unfold wp_X9_box_b83_f at h
                      refine lv_iload hx hb dX9_box_83 (lv_at hl 7 rfl) ?_
                      refine lv_iload hx hb dX9_box_85 (lv_at hl 5 rfl) ?_
                      refine lv_bipush (v := (16 : Int32)) hx hb dX9_box_87 (by decide) ?_
                      refine lv_idiv hx hb dX9_box_89 (by decide) ?_
                      refine lv_icmp_gt (tgt := 122) hx hb dX9_box_90 (by decide) (fun c_ => ?_) (fun c_ => ?_)
                      · have h := h.1 c_
                        exact j122 v6 _ (lv_sub hl [0, 1, 2, 3, 4, 5, 6] rfl) h
                      · have h := h.2 c_
                        refine lv_aload_n hx hb dX9_box_93 rfl (lv_at hl 0 rfl) ?_
                        refine va_get (D := D) (ci := 9) (C := RX9) (T := TX9) (N := 30) hx hb hts hi_X9 hown hK hP 0 rfl rfl 12 (by decide) (hts (.fieldLink RX9 46 "RayGroundModel" "lost" "[Z") (List.mem_of_getElem? (i := 2) rfl)) (fun _ h9 => h9) rfl dX9_box_94 ?_
                        refine lv_bipush (v := (16 : Int32)) hx hb dX9_box_97 (by decide) ?_
                        refine lv_iload_n hx hb dX9_box_99 rfl (lv_at hl 1 rfl) ?_
                        refine lv_imul hx hb dX9_box_100 ?_
                        refine lv_iload hx hb dX9_box_101 (lv_at hl 6 rfl) ?_
                        refine lv_iadd hx hb dX9_box_103 ?_
                        refine lv_iconst (v := (4 : Int32)) hx hb dX9_box_104 (by decide) ?_
                        refine lv_iload hx hb dX9_box_105 (lv_at hl 7 rfl) ?_
                        refine lv_imul hx hb dX9_box_107 ?_
                        refine lv_iadd hx hb dX9_box_108 ?_
                        refine py_zald hx hb hK hP 1 1 rfl rfl (k := ((((16 : Int32) * v1) + v6) + ((4 : Int32) * v7)).toNatClampNeg) rfl h.1 dX9_box_109 ?_
                        have h := h.2
                        refine lv_if_eq (tgt := 116) hx hb dX9_box_110 (by decide) (fun c_ => ?_) (fun c_ => ?_)
                        · have h := h.1 c_
                          obtain ⟨v7_13, ev7_13⟩ : ∃ y : Int32, y = v7 + (1 : Int32) := ⟨_, rfl⟩
                          have h := h v7_13 ev7_13
                          refine lv_iinc (v := v7_13) (lv' := [(7, .int v7_13), (0, .ref q_t), (1, .int v1), (2, .int v2), (3, .int v3), (4, .int v4), (5, .int v5), (6, .int v6)]) hx hb dX9_box_116 hl (k := 7) rfl (by rw [ev7_13]; rfl) (by decide) rfl (fun ls hl => ?_)
                          refine lv_goto (tgt := 83) hx hb dX9_box_119 (by decide) ?_
                          exact ih83 v7_13 _ (lv_sub hl [1, 2, 3, 4, 5, 6, 7, 0] rfl) h
                        · have h := h.2 c_
                          refine lv_bipush (v := (-2 : Int32)) hx hb dX9_box_113 (by decide) ?_
                          exact W.iret (v := (-2 : Int32)) hx hb hr (fun t ht hW => ⟨(-2 : Int32), rfl, h, ht⟩) (fun _ hq => by cases hq) dX9_box_115
                  refine lv_iload_n hx hb dX9_box_77 rfl (lv_at hl 3 rfl) ?_
                  refine lv_bipush (v := (16 : Int32)) hx hb dX9_box_78 (by decide) ?_
                  refine lv_idiv hx hb dX9_box_80 (by decide) ?_
                  refine lv_topi (fun v7_14 ev7_14 => ?_)
                  have h := h v7_14 ev7_14
                  refine lv_istore (lv' := [(7, .int v7_14), (0, .ref q_t), (1, .int v1), (2, .int v2), (3, .int v3), (4, .int v4), (5, .int v5), (6, .int v6)]) hx hb dX9_box_81 hl (by decide) rfl (fun ls hl => ?_)
                  obtain ⟨n, h⟩ := h
                  exact lp83 v6 n v7_14 _ (lv_sub hl [1, 2, 3, 4, 5, 6, 7, 0] rfl) h
            refine lv_iload_n hx hb dX9_box_61 rfl (lv_at hl 2 rfl) ?_
            refine lv_bipush (v := (16 : Int32)) hx hb dX9_box_62 (by decide) ?_
            refine lv_idiv hx hb dX9_box_64 (by decide) ?_
            refine lv_topi (fun v6_15 ev6_15 => ?_)
            have h := h v6_15 ev6_15
            refine lv_istore (lv' := [(6, .int v6_15), (0, .ref q_t), (1, .int a1), (2, .int a2), (3, .int a3), (4, .int a4), (5, .int a5)]) hx hb dX9_box_65 hl (by decide) rfl (fun ls hl => ?_)
            obtain ⟨n, h⟩ := h
            exact lp67 a1 a2 a3 a4 a5 n v6_15 _ (lv_sub hl [1, 2, 3, 4, 5, 6, 0] rfl) h
          · have h := h.1 c_
            refine lv_iconst (v := (-1 : Int32)) hx hb dX9_box_59 (by decide) ?_
            exact W.iret (v := (-1 : Int32)) hx hb hr (fun t ht hW => ⟨(-1 : Int32), rfl, h, ht⟩) (fun _ hq => by cases hq) dX9_box_60
set_option maxHeartbeats 4000000 in
set_option maxRecDepth 100000 in
theorem c_X9_shift (l : Launch) (D : va_G) (cy : Nat → ClassId) (q_t_lanes q_t_sizes q_t_items q_t_spare q_t_many q_t_px q_t_py q_t_pz q_t_strip q_t_kind q_t_byHand q_t_round q_t_lost q_t_shifts q_t_matrix q_t_right q_t_found q_t_high q_t_near q_t_cells q_t_part q_t_before q_t_tape q_t_what q_t_numbers q_t : Nat) (t_highs : Int32) (t_taped : Int32) (t_at : Int32) (t_fault : Int32) (t_steps : Int32) (t_shifts : Nat → Int32) (a1 : Int32) (a2 : Int32) (a3 : Int32) (sz : Nat) (Q : Int32 → (Nat → Int32) → Prop) (h : wp_X9_shift t_shifts a1 a2 a3 Q) : Met l yX9_shift wsX9_shift ({ frames := 2, cells := 0, slots := 0, locals := 45 } : Room) (py_Pw ([.ref q_t, .int a1, .int a2, .int a3] : List Value) D cy [(q_t, .inr (9, [.ref q_t_lanes, .ref q_t_sizes, .ref q_t_items, .ref q_t_spare, .ref q_t_many, .ref q_t_px, .ref q_t_py, .ref q_t_pz, .ref q_t_strip, .ref q_t_kind, .ref q_t_byHand, .ref q_t_round, .ref q_t_lost, .ref q_t_shifts, .ref q_t_matrix, .ref q_t_right, .ref q_t_found, .ref q_t_high, .int t_highs, .ref q_t_near, .ref q_t_cells, .ref q_t_part, .ref q_t_before, .ref q_t_tape, .int t_taped, .int t_at, .int t_fault, .int t_steps, .ref q_t_what, .ref q_t_numbers])), (q_t_shifts, .inl (cy 0, (8, .inl t_shifts)))] sz) (va_Qi (fun (r : Int32) (u : (Nat → Int32)) => Q r u) (py_B D (fun (u : (Nat → Int32)) => [(q_t, .inr (9, [.ref q_t_lanes, .ref q_t_sizes, .ref q_t_items, .ref q_t_spare, .ref q_t_many, .ref q_t_px, .ref q_t_py, .ref q_t_pz, .ref q_t_strip, .ref q_t_kind, .ref q_t_byHand, .ref q_t_round, .ref q_t_lost, .ref q_t_shifts, .ref q_t_matrix, .ref q_t_right, .ref q_t_found, .ref q_t_high, .int t_highs, .ref q_t_near, .ref q_t_cells, .ref q_t_part, .ref q_t_before, .ref q_t_tape, .int t_taped, .int t_at, .int t_fault, .int t_steps, .ref q_t_what, .ref q_t_numbers])), (q_t_shifts, .inl (cy 0, (8, .inl u)))]) (va_A [(q_t, .inr (9, [.ref q_t_lanes, .ref q_t_sizes, .ref q_t_items, .ref q_t_spare, .ref q_t_many, .ref q_t_px, .ref q_t_py, .ref q_t_pz, .ref q_t_strip, .ref q_t_kind, .ref q_t_byHand, .ref q_t_round, .ref q_t_lost, .ref q_t_shifts, .ref q_t_matrix, .ref q_t_right, .ref q_t_found, .ref q_t_high, .int t_highs, .ref q_t_near, .ref q_t_cells, .ref q_t_part, .ref q_t_before, .ref q_t_tape, .int t_taped, .int t_at, .int t_fault, .int t_steps, .ref q_t_what, .ref q_t_numbers])), (q_t_shifts, .inl (cy 0, (8, .inl t_shifts)))] sz)) (va_A [(q_t, .inr (9, [.ref q_t_lanes, .ref q_t_sizes, .ref q_t_items, .ref q_t_spare, .ref q_t_many, .ref q_t_px, .ref q_t_py, .ref q_t_pz, .ref q_t_strip, .ref q_t_kind, .ref q_t_byHand, .ref q_t_round, .ref q_t_lost, .ref q_t_shifts, .ref q_t_matrix, .ref q_t_right, .ref q_t_found, .ref q_t_high, .int t_highs, .ref q_t_near, .ref q_t_cells, .ref q_t_part, .ref q_t_before, .ref q_t_tape, .int t_taped, .int t_at, .int t_fault, .int t_steps, .ref q_t_what, .ref q_t_numbers])), (q_t_shifts, .inl (cy 0, (8, .inl t_shifts)))] sz)) 0 0 (va_A [(q_t, .inr (9, [.ref q_t_lanes, .ref q_t_sizes, .ref q_t_items, .ref q_t_spare, .ref q_t_many, .ref q_t_px, .ref q_t_py, .ref q_t_pz, .ref q_t_strip, .ref q_t_kind, .ref q_t_byHand, .ref q_t_round, .ref q_t_lost, .ref q_t_shifts, .ref q_t_matrix, .ref q_t_right, .ref q_t_found, .ref q_t_high, .int t_highs, .ref q_t_near, .ref q_t_cells, .ref q_t_part, .ref q_t_before, .ref q_t_tape, .int t_taped, .int t_at, .int t_fault, .int t_steps, .ref q_t_what, .ref q_t_numbers])), (q_t_shifts, .inl (cy 0, (8, .inl t_shifts)))] sz) := by
  refine Met.ofW (cc := cX9_shift) (maxL := 5) (ret := (some .int)) (by decide) rfl ?_
  intro p e s m args below meth c s₁ B hml hv
  obtain ⟨rfl, hsz, hP, hKK, hD0⟩ := hv
  have hK := hKK.1
  have hN := hKK.2
  have hx := B.exec
  have hb := B.bytes
  have hr := B.returns
  have hts := atoms_spec (ws := wsX9_shift) B.pre
  have hown : s.vm.findClass RX9 = some m.cls := findClass_of_methodNamed B.named
  have hlocks := B.notSynchronized
  have hi_X9 : ∀ w ∈ wsX90, w ∈ wsX9_shift := fun w h => List.mem_cons_of_mem _ (List.mem_append_right _ (h))
  subst hsz
  have hD := hD0.self (sz := s.heap.size)
  generalize hAe : va_A [(q_t, .inr (9, [.ref q_t_lanes, .ref q_t_sizes, .ref q_t_items, .ref q_t_spare, .ref q_t_many, .ref q_t_px, .ref q_t_py, .ref q_t_pz, .ref q_t_strip, .ref q_t_kind, .ref q_t_byHand, .ref q_t_round, .ref q_t_lost, .ref q_t_shifts, .ref q_t_matrix, .ref q_t_right, .ref q_t_found, .ref q_t_high, .int t_highs, .ref q_t_near, .ref q_t_cells, .ref q_t_part, .ref q_t_before, .ref q_t_tape, .int t_taped, .int t_at, .int t_fault, .int t_steps, .ref q_t_what, .ref q_t_numbers])), (q_t_shifts, .inl (cy 0, (8, .inl t_shifts)))] s.heap.size = A at hD ⊢
  have hA : ∀ q : Nat, s.heap.size ≤ q → A q := fun q h => by rw [← hAe]; exact Or.inr h
  have hS : va_S A s.heap s.heap [] := va_S.rf
  have hl := lv_entry ([.ref q_t, .int a1, .int a2, .int a3] : List Value) (n := 5) (Nat.le_of_ble_eq_true rfl)
  rw [lg_entry_eq]
  generalize (lg_sl ([.ref q_t, .int a1, .int a2, .int a3] : List Value) ++ List.replicate (5 - (lg_sl ([.ref q_t, .int a1, .int a2, .int a3] : List Value)).length) Slot.unset).toArray = ls at hl ⊢
  have hl : lv_has ls 5 [(0, .ref q_t), (1, .int a1), (2, .int a2), (3, .int a3)] := hl
  unfold wp_X9_shift at h
  refine lv_iload_n hx hb dX9_shift_0 rfl (lv_at hl 1 rfl) ?_
  refine py_ci (py_rSp (As := [.int a1]) ⟨hx, hb, hml, hown, hts⟩ hKK hP [] rfl (c_X9_isYear l D cy a1 _ h) (va_cwS 1 hts gX9_shift_X9_isYear rfl rfl rfl cd_X9_isYear ⟨Nat.le_of_ble_eq_true rfl, Nat.le_of_ble_eq_true rfl⟩) rfl hl.1 rfl (Nat.le_of_ble_eq_true rfl) ⟨Nat.zero_le _, Nat.zero_le _⟩ dX9_shift_1) (fun r_1 h => ?_)
  refine lv_if_eq (tgt := 33) hx hb dX9_shift_4 (by decide) (fun c_ => ?_) (fun c_ => ?_)
  · have h := h.1 c_
    refine lv_sipush (v := (-10001 : Int32)) hx hb dX9_shift_33 (by decide) ?_
    exact W.iret (v := (-10001 : Int32)) hx hb hr (fun t ht hW => ⟨⟨(-10001 : Int32), t_shifts, rfl, h, by rw [ht]; exact hP, hD⟩, hS.F ht⟩) hS.2.2 dX9_shift_36
  · have h := h.2 c_
    refine lv_iload_n hx hb dX9_shift_7 rfl (lv_at hl 2 rfl) ?_
    refine lv_i2l (v := (a2.toInt64)) hx hb dX9_shift_8 rfl ?_
    refine lv_lconst (v := (0 : Int64)) hx hb dX9_shift_9 (by decide) ?_
    refine lv_ldc2 (v := (3 : Int64)) hx hb hown (hts (.constantLong RX9 87 (3)) (List.mem_of_getElem? (i := 1) rfl)) dX9_shift_10 ?_
    refine py_ci (py_rSp (As := [.long (a2.toInt64), .long (0 : Int64), .long (3 : Int64)]) ⟨hx, hb, hml, hown, hts⟩ hKK hP [] rfl (c_X9_in l D cy (a2.toInt64) (0 : Int64) (3 : Int64) _ h) (va_cwS 3 hts gX9_shift_X9_in rfl rfl rfl cd_X9_in ⟨Nat.le_of_ble_eq_true rfl, Nat.le_of_ble_eq_true rfl⟩) rfl hl.1 rfl (Nat.le_of_ble_eq_true rfl) ⟨Nat.zero_le _, Nat.zero_le _⟩ dX9_shift_13) (fun r_2 h => ?_)
    refine lv_if_eq (tgt := 33) hx hb dX9_shift_16 (by decide) (fun c_ => ?_) (fun c_ => ?_)
    · have h := h.1 c_
      refine lv_sipush (v := (-10001 : Int32)) hx hb dX9_shift_33 (by decide) ?_
      exact W.iret (v := (-10001 : Int32)) hx hb hr (fun t ht hW => ⟨⟨(-10001 : Int32), t_shifts, rfl, h, by rw [ht]; exact hP, hD⟩, hS.F ht⟩) hS.2.2 dX9_shift_36
    · have h := h.2 c_
      refine lv_iload_n hx hb dX9_shift_19 rfl (lv_at hl 3 rfl) ?_
      refine lv_i2l (v := (a3.toInt64)) hx hb dX9_shift_20 rfl ?_
      refine lv_ldc2 (v := (-1000 : Int64)) hx hb hown (hts (.constantLong RX9 137 (-1000)) (List.mem_of_getElem? (i := 2) rfl)) dX9_shift_21 ?_
      refine lv_ldc2 (v := (1000 : Int64)) hx hb hown (hts (.constantLong RX9 139 (1000)) (List.mem_of_getElem? (i := 3) rfl)) dX9_shift_24 ?_
      refine py_ci (py_rSp (As := [.long (a3.toInt64), .long (-1000 : Int64), .long (1000 : Int64)]) ⟨hx, hb, hml, hown, hts⟩ hKK hP [] rfl (c_X9_in l D cy (a3.toInt64) (-1000 : Int64) (1000 : Int64) _ h) (va_cwS 3 hts gX9_shift_X9_in rfl rfl rfl cd_X9_in ⟨Nat.le_of_ble_eq_true rfl, Nat.le_of_ble_eq_true rfl⟩) rfl hl.1 rfl (Nat.le_of_ble_eq_true rfl) ⟨Nat.zero_le _, Nat.zero_le _⟩ dX9_shift_27) (fun r_3 h => ?_)
      refine lv_if_ne (tgt := 37) hx hb dX9_shift_30 (by decide) (fun c_ => ?_) (fun c_ => ?_)
      · have h := h.2 c_
        refine lv_aload_n hx hb dX9_shift_37 rfl (lv_at hl 0 rfl) ?_
        refine va_get (D := D) (ci := 9) (C := RX9) (T := TX9) (N := 30) hx hb hts hi_X9 hown hK hP 0 rfl rfl 13 (by decide) (hts (.fieldLink RX9 50 "RayGroundModel" "shifts" "[I") (List.mem_of_getElem? (i := 4) rfl)) (fun _ h9 => h9) rfl dX9_shift_38 ?_
        refine lv_iconst (v := (4 : Int32)) hx hb dX9_shift_41 (by decide) ?_
        refine lv_iload_n hx hb dX9_shift_42 rfl (lv_at hl 1 rfl) ?_
        refine lv_imul hx hb dX9_shift_43 ?_
        refine lv_iload_n hx hb dX9_shift_44 rfl (lv_at hl 2 rfl) ?_
        refine lv_iadd hx hb dX9_shift_45 ?_
        refine py_iald hx hb hK hP 1 0 rfl rfl (k := (((4 : Int32) * a1) + a2).toNatClampNeg) rfl h.1 dX9_shift_46 ?_
        have h := h.2
        refine lv_topi (fun v4_4 ev4_4 => ?_)
        have h := h v4_4 ev4_4
        refine lv_istore (lv' := [(4, .int v4_4), (0, .ref q_t), (1, .int a1), (2, .int a2), (3, .int a3)]) hx hb dX9_shift_47 hl (by decide) rfl (fun ls hl => ?_)
        refine lv_aload_n hx hb dX9_shift_49 rfl (lv_at hl 1 rfl) ?_
        refine va_get (D := D) (ci := 9) (C := RX9) (T := TX9) (N := 30) hx hb hts hi_X9 hown hK hP 0 rfl rfl 13 (by decide) (hts (.fieldLink RX9 50 "RayGroundModel" "shifts" "[I") (List.mem_of_getElem? (i := 4) rfl)) (fun _ h9 => h9) rfl dX9_shift_50 ?_
        refine lv_iconst (v := (4 : Int32)) hx hb dX9_shift_53 (by decide) ?_
        refine lv_iload_n hx hb dX9_shift_54 rfl (lv_at hl 2 rfl) ?_
        refine lv_imul hx hb dX9_shift_55 ?_
        refine lv_iload_n hx hb dX9_shift_56 rfl (lv_at hl 3 rfl) ?_
        refine lv_iadd hx hb dX9_shift_57 ?_
        refine lv_iload_n hx hb dX9_shift_58 rfl (lv_at hl 4 rfl) ?_
        refine py_iast hx hb hK hP hD hS 1 0 rfl rfl (k := (((4 : Int32) * a1) + a2).toNatClampNeg) rfl h.1 dX9_shift_59 (fun H locs hP hD hS => ?_)
        have h := h.2
        have hP : va_P D vwCl [(q_t, .inr (9, [.ref q_t_lanes, .ref q_t_sizes, .ref q_t_items, .ref q_t_spare, .ref q_t_many, .ref q_t_px, .ref q_t_py, .ref q_t_pz, .ref q_t_strip, .ref q_t_kind, .ref q_t_byHand, .ref q_t_round, .ref q_t_lost, .ref q_t_shifts, .ref q_t_matrix, .ref q_t_right, .ref q_t_found, .ref q_t_high, .int t_highs, .ref q_t_near, .ref q_t_cells, .ref q_t_part, .ref q_t_before, .ref q_t_tape, .int t_taped, .int t_at, .int t_fault, .int t_steps, .ref q_t_what, .ref q_t_numbers])), (q_t_shifts, .inl (cy 0, (8, .inl (upd t_shifts ((((4 : Int32) * a1) + a2).toNatClampNeg) a3))))] H := hP
        have hD : va_D A [(q_t, .inr (9, [.ref q_t_lanes, .ref q_t_sizes, .ref q_t_items, .ref q_t_spare, .ref q_t_many, .ref q_t_px, .ref q_t_py, .ref q_t_pz, .ref q_t_strip, .ref q_t_kind, .ref q_t_byHand, .ref q_t_round, .ref q_t_lost, .ref q_t_shifts, .ref q_t_matrix, .ref q_t_right, .ref q_t_found, .ref q_t_high, .int t_highs, .ref q_t_near, .ref q_t_cells, .ref q_t_part, .ref q_t_before, .ref q_t_tape, .int t_taped, .int t_at, .int t_fault, .int t_steps, .ref q_t_what, .ref q_t_numbers])), (q_t_shifts, .inl (cy 0, (8, .inl (upd t_shifts ((((4 : Int32) * a1) + a2).toNatClampNeg) a3))))] := hD
        refine lv_iload hx hb dX9_shift_60 (lv_at hl 0 rfl) ?_
        exact W.iret (v := v4_4) hx hb hr (fun t ht hW => ⟨⟨v4_4, (upd t_shifts ((((4 : Int32) * a1) + a2).toNatClampNeg) a3), rfl, h, by rw [ht]; exact hP, hD⟩, hS.F ht⟩) hS.2.2 dX9_shift_62
      · have h := h.1 c_
        refine lv_sipush (v := (-10001 : Int32)) hx hb dX9_shift_33 (by decide) ?_
        exact W.iret (v := (-10001 : Int32)) hx hb hr (fun t ht hW => ⟨⟨(-10001 : Int32), t_shifts, rfl, h, by rw [ht]; exact hP, hD⟩, hS.F ht⟩) hS.2.2 dX9_shift_36
set_option maxHeartbeats 4000000 in
set_option maxRecDepth 100000 in
theorem c_X9_arePair (l : Launch) (D : va_G) (cy : Nat → ClassId) (q_t_lanes q_t_sizes q_t_items q_t_spare q_t_many q_t_px q_t_py q_t_pz q_t_strip q_t_kind q_t_byHand q_t_round q_t_lost q_t_shifts q_t_matrix q_t_right q_t_found q_t_high q_t_near q_t_cells q_t_part q_t_before q_t_tape q_t_what q_t_numbers q_t : Nat) (t_highs : Int32) (t_taped : Int32) (t_at : Int32) (t_fault : Int32) (t_steps : Int32) (t_strip : Nat → Int32) (t_px : Nat → Int32) (t_py : Nat → Int32) (a1 : Int32) (a2 : Int32) (Q : Int32 → Prop) (h : wp_X9_arePair t_strip t_px t_py a1 a2 Q) : Met l yX9_arePair wsX9_arePair ({ frames := 0, cells := 0, slots := 0, locals := 0 } : Room) (py_Pp ([.ref q_t, .int a1, .int a2] : List Value) D cy [(q_t, .inr (9, [.ref q_t_lanes, .ref q_t_sizes, .ref q_t_items, .ref q_t_spare, .ref q_t_many, .ref q_t_px, .ref q_t_py, .ref q_t_pz, .ref q_t_strip, .ref q_t_kind, .ref q_t_byHand, .ref q_t_round, .ref q_t_lost, .ref q_t_shifts, .ref q_t_matrix, .ref q_t_right, .ref q_t_found, .ref q_t_high, .int t_highs, .ref q_t_near, .ref q_t_cells, .ref q_t_part, .ref q_t_before, .ref q_t_tape, .int t_taped, .int t_at, .int t_fault, .int t_steps, .ref q_t_what, .ref q_t_numbers])), (q_t_strip, .inl (cy 0, (200, .inl t_strip))), (q_t_px, .inl (cy 0, (200, .inl t_px))), (q_t_py, .inl (cy 0, (200, .inl t_py)))]) (vp_Si Q) 0 0 (fun _ => False) := by
  refine Met.ofW (cc := cX9_arePair) (maxL := 3) (ret := (some .boolean)) (by decide) rfl ?_
  intro p e s m args below meth c s₁ B hml hv
  obtain ⟨rfl, hP, hKK⟩ := hv
  have hK := hKK.1
  have hN := hKK.2
  have hx := B.exec
  have hb := B.bytes
  have hr := B.returns
  have hts := atoms_spec (ws := wsX9_arePair) B.pre
  have hown : s.vm.findClass RX9 = some m.cls := findClass_of_methodNamed B.named
  have hlocks := B.notSynchronized
  have hi_X9 : ∀ w ∈ wsX90, w ∈ wsX9_arePair := fun w h => List.mem_cons_of_mem _ (List.mem_append_right _ (h))
  have hl := lv_entry ([.ref q_t, .int a1, .int a2] : List Value) (n := 3) (Nat.le_of_ble_eq_true rfl)
  rw [lg_entry_eq]
  generalize (lg_sl ([.ref q_t, .int a1, .int a2] : List Value) ++ List.replicate (3 - (lg_sl ([.ref q_t, .int a1, .int a2] : List Value)).length) Slot.unset).toArray = ls at hl ⊢
  have hl : lv_has ls 3 [(0, .ref q_t), (1, .int a1), (2, .int a2)] := hl
  unfold wp_X9_arePair at h
  have j57 : ∀ (ls : Array Slot), lv_has ls 3 [] → wp_X9_arePair_b57 Q → W p l e (headSpec wsX9_arePair ({ frames := 0, cells := 0, slots := 0, locals := 0 } : Room)).room s m (([.ref q_t, .int a1, .int a2] : List Value)).toArray below meth c s.heap [] 0 0 (MQ below (vp_Si Q) (([.ref q_t, .int a1, .int a2] : List Value)).toArray s 0 0 (fun _ => False)) (F0 m 57 ls []) := by
    intro ls hl h
    unfold wp_X9_arePair_b57 at h
    refine lv_iconst (v := (0 : Int32)) hx hb dX9_arePair_57 (by decide) ?_
    exact W.zret (v := (0 : Int32)) hx hb hr rfl (fun t ht hW => ⟨(0 : Int32), rfl, h, ht⟩) (fun _ hq => by cases hq) dX9_arePair_58
  refine lv_aload_n hx hb dX9_arePair_0 rfl (lv_at hl 0 rfl) ?_
  refine va_get (D := D) (ci := 9) (C := RX9) (T := TX9) (N := 30) hx hb hts hi_X9 hown hK hP 0 rfl rfl 8 (by decide) (hts (.fieldLink RX9 34 "RayGroundModel" "strip" "[I") (List.mem_of_getElem? (i := 1) rfl)) (fun _ h9 => h9) rfl dX9_arePair_1 ?_
  refine lv_iload_n hx hb dX9_arePair_4 rfl (lv_at hl 1 rfl) ?_
  refine py_iald hx hb hK hP 1 0 rfl rfl (k := a1.toNatClampNeg) rfl h.1 dX9_arePair_5 ?_
  have h := h.2
  refine lv_aload_n hx hb dX9_arePair_6 rfl (lv_at hl 0 rfl) ?_
  refine va_get (D := D) (ci := 9) (C := RX9) (T := TX9) (N := 30) hx hb hts hi_X9 hown hK hP 0 rfl rfl 8 (by decide) (hts (.fieldLink RX9 34 "RayGroundModel" "strip" "[I") (List.mem_of_getElem? (i := 1) rfl)) (fun _ h9 => h9) rfl dX9_arePair_7 ?_
  refine lv_iload_n hx hb dX9_arePair_10 rfl (lv_at hl 2 rfl) ?_
  refine py_iald hx hb hK hP 1 0 rfl rfl (k := a2.toNatClampNeg) rfl h.1 dX9_arePair_11 ?_
  have h := h.2
  refine lv_icmp_eq (tgt := 57) hx hb dX9_arePair_12 (by decide) (fun c_ => ?_) (fun c_ => ?_)
  · have h := h.1 c_
    exact j57 _ (lv_sub hl [] rfl) h
  · have h := h.2 c_
    refine lv_aload_n hx hb dX9_arePair_15 rfl (lv_at hl 0 rfl) ?_
    refine va_get (D := D) (ci := 9) (C := RX9) (T := TX9) (N := 30) hx hb hts hi_X9 hown hK hP 0 rfl rfl 5 (by decide) (hts (.fieldLink RX9 25 "RayGroundModel" "px" "[I") (List.mem_of_getElem? (i := 2) rfl)) (fun _ h9 => h9) rfl dX9_arePair_16 ?_
    refine lv_iload_n hx hb dX9_arePair_19 rfl (lv_at hl 1 rfl) ?_
    refine py_iald hx hb hK hP 2 0 rfl rfl (k := a1.toNatClampNeg) rfl h.1 dX9_arePair_20 ?_
    have h := h.2
    refine lv_iconst (v := (4 : Int32)) hx hb dX9_arePair_21 (by decide) ?_
    refine lv_idiv hx hb dX9_arePair_22 (by decide) ?_
    refine lv_aload_n hx hb dX9_arePair_23 rfl (lv_at hl 0 rfl) ?_
    refine va_get (D := D) (ci := 9) (C := RX9) (T := TX9) (N := 30) hx hb hts hi_X9 hown hK hP 0 rfl rfl 5 (by decide) (hts (.fieldLink RX9 25 "RayGroundModel" "px" "[I") (List.mem_of_getElem? (i := 2) rfl)) (fun _ h9 => h9) rfl dX9_arePair_24 ?_
    refine lv_iload_n hx hb dX9_arePair_27 rfl (lv_at hl 2 rfl) ?_
    refine py_iald hx hb hK hP 2 0 rfl rfl (k := a2.toNatClampNeg) rfl h.1 dX9_arePair_28 ?_
    have h := h.2
    refine lv_iconst (v := (4 : Int32)) hx hb dX9_arePair_29 (by decide) ?_
    refine lv_idiv hx hb dX9_arePair_30 (by decide) ?_
    refine lv_icmp_ne (tgt := 57) hx hb dX9_arePair_31 (by decide) (fun c_ => ?_) (fun c_ => ?_)
    · have h := h.2 c_
      exact j57 _ (lv_sub hl [] rfl) h
    · have h := h.1 c_
      refine lv_aload_n hx hb dX9_arePair_34 rfl (lv_at hl 0 rfl) ?_
      refine va_get (D := D) (ci := 9) (C := RX9) (T := TX9) (N := 30) hx hb hts hi_X9 hown hK hP 0 rfl rfl 6 (by decide) (hts (.fieldLink RX9 28 "RayGroundModel" "py" "[I") (List.mem_of_getElem? (i := 3) rfl)) (fun _ h9 => h9) rfl dX9_arePair_35 ?_
      refine lv_iload_n hx hb dX9_arePair_38 rfl (lv_at hl 1 rfl) ?_
      refine py_iald hx hb hK hP 3 0 rfl rfl (k := a1.toNatClampNeg) rfl h.1 dX9_arePair_39 ?_
      have h := h.2
      refine lv_iconst (v := (4 : Int32)) hx hb dX9_arePair_40 (by decide) ?_
      refine lv_idiv hx hb dX9_arePair_41 (by decide) ?_
      refine lv_aload_n hx hb dX9_arePair_42 rfl (lv_at hl 0 rfl) ?_
      refine va_get (D := D) (ci := 9) (C := RX9) (T := TX9) (N := 30) hx hb hts hi_X9 hown hK hP 0 rfl rfl 6 (by decide) (hts (.fieldLink RX9 28 "RayGroundModel" "py" "[I") (List.mem_of_getElem? (i := 3) rfl)) (fun _ h9 => h9) rfl dX9_arePair_43 ?_
      refine lv_iload_n hx hb dX9_arePair_46 rfl (lv_at hl 2 rfl) ?_
      refine py_iald hx hb hK hP 3 0 rfl rfl (k := a2.toNatClampNeg) rfl h.1 dX9_arePair_47 ?_
      have h := h.2
      refine lv_iconst (v := (4 : Int32)) hx hb dX9_arePair_48 (by decide) ?_
      refine lv_idiv hx hb dX9_arePair_49 (by decide) ?_
      refine lv_icmp_ne (tgt := 57) hx hb dX9_arePair_50 (by decide) (fun c_ => ?_) (fun c_ => ?_)
      · have h := h.2 c_
        exact j57 _ (lv_sub hl [] rfl) h
      · have h := h.1 c_
        refine lv_iconst (v := (1 : Int32)) hx hb dX9_arePair_53 (by decide) ?_
        refine lv_goto (tgt := 58) hx hb dX9_arePair_54 (by decide) ?_
        exact W.zret (v := (1 : Int32)) hx hb hr rfl (fun t ht hW => ⟨(1 : Int32), rfl, h, ht⟩) (fun _ hq => by cases hq) dX9_arePair_58
set_option maxHeartbeats 4000000 in
set_option maxRecDepth 100000 in
theorem c_X9_leftOver (l : Launch) (D : va_G) (cy : Nat → ClassId) (q_t_lanes q_t_sizes q_t_items q_t_spare q_t_many q_t_px q_t_py q_t_pz q_t_strip q_t_kind q_t_byHand q_t_round q_t_lost q_t_shifts q_t_matrix q_t_right q_t_found q_t_high q_t_near q_t_cells q_t_part q_t_before q_t_tape q_t_what q_t_numbers q_t : Nat) (t_highs : Int32) (t_taped : Int32) (t_at : Int32) (t_fault : Int32) (t_steps : Int32) (t_many : Nat → Int32) (t_pz : Nat → Int32) (t_strip : Nat → Int32) (t_shifts : Nat → Int32) (t_px : Nat → Int32) (t_py : Nat → Int32) (a1 : Int32) (Q : Int64 → Prop) (h : wp_X9_leftOver t_many t_pz t_strip t_shifts t_px t_py a1 Q) : Met l yX9_leftOver wsX9_leftOver ({ frames := 2, cells := 0, slots := 0, locals := 45 } : Room) (py_Pp ([.ref q_t, .int a1] : List Value) D cy [(q_t, .inr (9, [.ref q_t_lanes, .ref q_t_sizes, .ref q_t_items, .ref q_t_spare, .ref q_t_many, .ref q_t_px, .ref q_t_py, .ref q_t_pz, .ref q_t_strip, .ref q_t_kind, .ref q_t_byHand, .ref q_t_round, .ref q_t_lost, .ref q_t_shifts, .ref q_t_matrix, .ref q_t_right, .ref q_t_found, .ref q_t_high, .int t_highs, .ref q_t_near, .ref q_t_cells, .ref q_t_part, .ref q_t_before, .ref q_t_tape, .int t_taped, .int t_at, .int t_fault, .int t_steps, .ref q_t_what, .ref q_t_numbers])), (q_t_many, .inl (cy 0, (2, .inl t_many))), (q_t_pz, .inl (cy 0, (200, .inl t_pz))), (q_t_strip, .inl (cy 0, (200, .inl t_strip))), (q_t_shifts, .inl (cy 0, (8, .inl t_shifts))), (q_t_px, .inl (cy 0, (200, .inl t_px))), (q_t_py, .inl (cy 0, (200, .inl t_py)))]) (vp_Sl Q) 0 0 (fun _ => False) := by
  refine Met.ofW (cc := cX9_leftOver) (maxL := 8) (ret := (some .long)) (by decide) rfl ?_
  intro p e s m args below meth c s₁ B hml hv
  obtain ⟨rfl, hP, hKK⟩ := hv
  have hK := hKK.1
  have hN := hKK.2
  have hx := B.exec
  have hb := B.bytes
  have hr := B.returns
  have hts := atoms_spec (ws := wsX9_leftOver) B.pre
  have hown : s.vm.findClass RX9 = some m.cls := findClass_of_methodNamed B.named
  have hlocks := B.notSynchronized
  have hl := lv_entry ([.ref q_t, .int a1] : List Value) (n := 8) (Nat.le_of_ble_eq_true rfl)
  rw [lg_entry_eq]
  generalize (lg_sl ([.ref q_t, .int a1] : List Value) ++ List.replicate (8 - (lg_sl ([.ref q_t, .int a1] : List Value)).length) Slot.unset).toArray = ls at hl ⊢
  have hl : lv_has ls 8 [(0, .ref q_t), (1, .int a1)] := hl
  unfold wp_X9_leftOver at h
  refine lv_iload_n hx hb dX9_leftOver_0 rfl (lv_at hl 1 rfl) ?_
  refine py_ci (py_rSp (As := [.int a1]) ⟨hx, hb, hml, hown, hts⟩ hKK hP [] rfl (c_X9_isYear l D cy a1 _ h) (va_cwS 1 hts gX9_leftOver_X9_isYear rfl rfl rfl cd_X9_isYear ⟨Nat.le_of_ble_eq_true rfl, Nat.le_of_ble_eq_true rfl⟩) rfl hl.1 rfl (Nat.le_of_ble_eq_true rfl) ⟨Nat.zero_le _, Nat.zero_le _⟩ dX9_leftOver_1) (fun r_1 h => ?_)
  refine lv_if_ne (tgt := 11) hx hb dX9_leftOver_4 (by decide) (fun c_ => ?_) (fun c_ => ?_)
  · have h := h.2 c_
    have lp19 : ∀ (v1 : Int32) (n19 : Nat) (v2 : Int64) (v4 : Int32) (ls : Array Slot), lv_has ls 8 [(0, .ref q_t), (1, .int v1), (2, .long v2), (4, .int v4)] → wp_X9_leftOver_b19 Q t_many t_pz t_strip t_shifts t_px t_py v1 n19 v2 v4 → W p l e (headSpec wsX9_leftOver ({ frames := 2, cells := 0, slots := 0, locals := 45 } : Room)).room s m (([.ref q_t, .int a1] : List Value)).toArray below meth c s.heap [] 0 0 (MQ below (vp_Sl Q) (([.ref q_t, .int a1] : List Value)).toArray s 0 0 (fun _ => False)) (F0 m 19 ls []) := by
      intro v1 n19
      induction n19 with
      | zero => intro v2 v4 ls hl h; exact False.elim h
      | succ n19 ih19 =>
        intro v2 v4 ls hl h
        have h : wp_X9_leftOver_b19_f (wp_X9_leftOver_b19 Q t_many t_pz t_strip t_shifts t_px t_py v1 n19) Q t_many t_pz t_strip t_shifts t_px t_py v1 v2 v4 := h
        unfold wp_X9_leftOver_b19_f at h
        refine lv_iload hx hb dX9_leftOver_19 (lv_at hl 3 rfl) ?_
        refine lv_aload_n hx hb dX9_leftOver_21 rfl (lv_at hl 0 rfl) ?_
        refine lv_iload_n hx hb dX9_leftOver_22 rfl (lv_at hl 1 rfl) ?_
        refine py_ci (py_rVp (As := [.int v1]) ⟨hx, hb, hml, hown, hts⟩ hKK hP [0, 1] rfl 0 9 rfl rfl (c_X9_endOf l D cy q_t_lanes q_t_sizes q_t_items q_t_spare q_t_many q_t_px q_t_py q_t_pz q_t_strip q_t_kind q_t_byHand q_t_round q_t_lost q_t_shifts q_t_matrix q_t_right q_t_found q_t_high q_t_near q_t_cells q_t_part q_t_before q_t_tape q_t_what q_t_numbers q_t t_highs t_taped t_at t_fault t_steps t_many v1 _ h) (cwV 1 hts gX9_leftOver_X9_endOf rfl rfl rfl cdv_X9_endOf ⟨Nat.le_of_ble_eq_true rfl, Nat.le_of_ble_eq_true rfl⟩) rfl hl.1 rfl (Nat.le_of_ble_eq_true rfl) ⟨Nat.zero_le _, Nat.zero_le _⟩ dX9_leftOver_23) (fun r_2 h => ?_)
        refine lv_icmp_ge (tgt := 98) hx hb dX9_leftOver_26 (by decide) (fun c_ => ?_) (fun c_ => ?_)
        · have h := h.1 c_
          refine lv_lload_n hx hb dX9_leftOver_98 rfl (lv_at hl 2 rfl) ?_
          exact W.lret (v := v2) hx hb hr (fun t ht hW => ⟨v2, rfl, h, ht⟩) (fun _ hq => by cases hq) dX9_leftOver_99
        · have h := h.2 c_
          have j92 : ∀ (v2 : Int64) (v4 : Int32) (ls : Array Slot), lv_has ls 8 [(0, .ref q_t), (1, .int v1), (2, .long v2), (4, .int v4)] → wp_X9_leftOver_b92 (wp_X9_leftOver_b19 Q t_many t_pz t_strip t_shifts t_px t_py v1 n19) v2 v4 → W p l e (headSpec wsX9_leftOver ({ frames := 2, cells := 0, slots := 0, locals := 45 } : Room)).room s m (([.ref q_t, .int a1] : List Value)).toArray below meth c s.heap [] 0 0 (MQ below (vp_Sl Q) (([.ref q_t, .int a1] : List Value)).toArray s 0 0 (fun _ => False)) (F0 m 92 ls []) := by
            intro v2 v4 ls hl h
            unfold wp_X9_leftOver_b92 at h
            obtain ⟨v4_3, ev4_3⟩ : ∃ y : Int32, y = v4 + (1 : Int32) := ⟨_, rfl⟩
            have h := h v4_3 ev4_3
            refine lv_iinc (v := v4_3) (lv' := [(4, .int v4_3), (0, .ref q_t), (1, .int v1), (2, .long v2)]) hx hb dX9_leftOver_92 hl (k := 3) rfl (by rw [ev4_3]; rfl) (by decide) rfl (fun ls hl => ?_)
            refine lv_goto (tgt := 19) hx hb dX9_leftOver_95 (by decide) ?_
            exact ih19 v2 v4_3 _ (lv_sub hl [1, 2, 3, 0] rfl) h
          have lp35 : ∀ (v4 : Int32) (n35 : Nat) (v2 : Int64) (v5 : Int32) (ls : Array Slot), lv_has ls 8 [(0, .ref q_t), (1, .int v1), (2, .long v2), (4, .int v4), (5, .int v5)] → wp_X9_leftOver_b35 (wp_X9_leftOver_b92 (wp_X9_leftOver_b19 Q t_many t_pz t_strip t_shifts t_px t_py v1 n19)) t_many t_pz t_strip t_shifts t_px t_py v1 v4 n35 v2 v5 → W p l e (headSpec wsX9_leftOver ({ frames := 2, cells := 0, slots := 0, locals := 45 } : Room)).room s m (([.ref q_t, .int a1] : List Value)).toArray below meth c s.heap [] 0 0 (MQ below (vp_Sl Q) (([.ref q_t, .int a1] : List Value)).toArray s 0 0 (fun _ => False)) (F0 m 35 ls []) := by
            intro v4 n35
            induction n35 with
            | zero => intro v2 v5 ls hl h; exact False.elim h
            | succ n35 ih35 =>
              intro v2 v5 ls hl h
              have h : wp_X9_leftOver_b35_f (wp_X9_leftOver_b35 (wp_X9_leftOver_b92 (wp_X9_leftOver_b19 Q t_many t_pz t_strip t_shifts t_px t_py v1 n19)) t_many t_pz t_strip t_shifts t_px t_py v1 v4 n35) (wp_X9_leftOver_b92 (wp_X9_leftOver_b19 Q t_many t_pz t_strip t_shifts t_px t_py v1 n19)) t_many t_pz t_strip t_shifts t_px t_py v1 v4 v2 v5 := h
              unfold wp_X9_leftOver_b35_f at h
              refine lv_iload hx hb dX9_leftOver_35 (lv_at hl 4 rfl) ?_
              refine lv_aload_n hx hb dX9_leftOver_37 rfl (lv_at hl 0 rfl) ?_
              refine lv_iload_n hx hb dX9_leftOver_38 rfl (lv_at hl 1 rfl) ?_
              refine py_ci (py_rVp (As := [.int v1]) ⟨hx, hb, hml, hown, hts⟩ hKK hP [0, 1] rfl 0 9 rfl rfl (c_X9_endOf l D cy q_t_lanes q_t_sizes q_t_items q_t_spare q_t_many q_t_px q_t_py q_t_pz q_t_strip q_t_kind q_t_byHand q_t_round q_t_lost q_t_shifts q_t_matrix q_t_right q_t_found q_t_high q_t_near q_t_cells q_t_part q_t_before q_t_tape q_t_what q_t_numbers q_t t_highs t_taped t_at t_fault t_steps t_many v1 _ h) (cwV 1 hts gX9_leftOver_X9_endOf rfl rfl rfl cdv_X9_endOf ⟨Nat.le_of_ble_eq_true rfl, Nat.le_of_ble_eq_true rfl⟩) rfl hl.1 rfl (Nat.le_of_ble_eq_true rfl) ⟨Nat.zero_le _, Nat.zero_le _⟩ dX9_leftOver_39) (fun r_4 h => ?_)
              refine lv_icmp_ge (tgt := 92) hx hb dX9_leftOver_42 (by decide) (fun c_ => ?_) (fun c_ => ?_)
              · have h := h.1 c_
                exact j92 v2 v4 _ (lv_sub hl [0, 1, 2, 3] rfl) h
              · have h := h.2 c_
                have j84 : ∀ (v5 : Int32) (s0 : Int64) (s1 : Int64) (ls : Array Slot), lv_has ls 8 [(0, .ref q_t), (1, .int v1), (4, .int v4), (5, .int v5)] → wp_X9_leftOver_b84 (wp_X9_leftOver_b35 (wp_X9_leftOver_b92 (wp_X9_leftOver_b19 Q t_many t_pz t_strip t_shifts t_px t_py v1 n19)) t_many t_pz t_strip t_shifts t_px t_py v1 v4 n35) v5 s0 s1 → W p l e (headSpec wsX9_leftOver ({ frames := 2, cells := 0, slots := 0, locals := 45 } : Room)).room s m (([.ref q_t, .int a1] : List Value)).toArray below meth c s.heap [] 0 0 (MQ below (vp_Sl Q) (([.ref q_t, .int a1] : List Value)).toArray s 0 0 (fun _ => False)) (F0 m 84 ls [.long s1, .long s0]) := by
                  intro v5 s0 s1 ls hl h
                  unfold wp_X9_leftOver_b84 at h
                  refine lv_ladd hx hb dX9_leftOver_84 ?_
                  refine lv_topl (fun v2_5 ev2_5 => ?_)
                  have h := h v2_5 ev2_5
                  refine lv_lstore_n (lv' := [(2, .long v2_5), (0, .ref q_t), (1, .int v1), (4, .int v4), (5, .int v5)]) hx hb dX9_leftOver_85 rfl hl (by decide) rfl (fun ls hl => ?_)
                  obtain ⟨v5_6, ev5_6⟩ : ∃ y : Int32, y = v5 + (1 : Int32) := ⟨_, rfl⟩
                  have h := h v5_6 ev5_6
                  refine lv_iinc (v := v5_6) (lv' := [(5, .int v5_6), (2, .long v2_5), (0, .ref q_t), (1, .int v1), (4, .int v4)]) hx hb dX9_leftOver_86 hl (k := 4) rfl (by rw [ev5_6]; rfl) (by decide) rfl (fun ls hl => ?_)
                  refine lv_goto (tgt := 35) hx hb dX9_leftOver_89 (by decide) ?_
                  exact ih35 v2_5 v5_6 _ (lv_sub hl [2, 3, 1, 4, 0] rfl) h
                refine lv_aload_n hx hb dX9_leftOver_45 rfl (lv_at hl 0 rfl) ?_
                refine lv_iload_n hx hb dX9_leftOver_46 rfl (lv_at hl 1 rfl) ?_
                refine lv_iload hx hb dX9_leftOver_47 (lv_at hl 3 rfl) ?_
                refine py_ci (py_rVp (As := [.int v1, .int v4]) ⟨hx, hb, hml, hown, hts⟩ hKK hP [0, 2, 3, 4] rfl 0 9 rfl rfl (c_X9_heightOf l D cy q_t_lanes q_t_sizes q_t_items q_t_spare q_t_many q_t_px q_t_py q_t_pz q_t_strip q_t_kind q_t_byHand q_t_round q_t_lost q_t_shifts q_t_matrix q_t_right q_t_found q_t_high q_t_near q_t_cells q_t_part q_t_before q_t_tape q_t_what q_t_numbers q_t t_highs t_taped t_at t_fault t_steps t_pz t_strip t_shifts v1 v4 _ h) (cwV 2 hts gX9_leftOver_X9_heightOf rfl rfl rfl cdv_X9_heightOf ⟨Nat.le_of_ble_eq_true rfl, Nat.le_of_ble_eq_true rfl⟩) rfl hl.1 rfl (Nat.le_of_ble_eq_true rfl) ⟨Nat.zero_le _, Nat.zero_le _⟩ dX9_leftOver_49) (fun r_7 h => ?_)
                refine lv_aload_n hx hb dX9_leftOver_52 rfl (lv_at hl 0 rfl) ?_
                refine lv_iload_n hx hb dX9_leftOver_53 rfl (lv_at hl 1 rfl) ?_
                refine lv_iload hx hb dX9_leftOver_54 (lv_at hl 4 rfl) ?_
                refine py_ci (py_rVp (As := [.int v1, .int v5]) ⟨hx, hb, hml, hown, hts⟩ hKK hP [0, 2, 3, 4] rfl 0 9 rfl rfl (c_X9_heightOf l D cy q_t_lanes q_t_sizes q_t_items q_t_spare q_t_many q_t_px q_t_py q_t_pz q_t_strip q_t_kind q_t_byHand q_t_round q_t_lost q_t_shifts q_t_matrix q_t_right q_t_found q_t_high q_t_near q_t_cells q_t_part q_t_before q_t_tape q_t_what q_t_numbers q_t t_highs t_taped t_at t_fault t_steps t_pz t_strip t_shifts v1 v5 _ h) (cwV 2 hts gX9_leftOver_X9_heightOf rfl rfl rfl cdv_X9_heightOf ⟨Nat.le_of_ble_eq_true rfl, Nat.le_of_ble_eq_true rfl⟩) rfl hl.1 rfl (Nat.le_of_ble_eq_true rfl) ⟨Nat.zero_le _, Nat.zero_le _⟩ dX9_leftOver_56) (fun r_8 h => ?_)
                refine lv_isub hx hb dX9_leftOver_59 ?_
                refine lv_i2l (v := ((r_7 - r_8).toInt64)) hx hb dX9_leftOver_60 rfl ?_
                refine lv_topl (fun v6_9 ev6_9 => ?_)
                have h := h v6_9 ev6_9
                refine lv_lstore (lv' := [(6, .long v6_9), (0, .ref q_t), (1, .int v1), (2, .long v2), (4, .int v4), (5, .int v5)]) hx hb dX9_leftOver_61 hl (by decide) rfl (fun ls hl => ?_)
                refine lv_lload_n hx hb dX9_leftOver_63 rfl (lv_at hl 3 rfl) ?_
                refine lv_aload_n hx hb dX9_leftOver_64 rfl (lv_at hl 1 rfl) ?_
                refine lv_iload hx hb dX9_leftOver_65 (lv_at hl 4 rfl) ?_
                refine lv_iload hx hb dX9_leftOver_67 (lv_at hl 5 rfl) ?_
                refine py_ci (py_rVp (As := [.int v4, .int v5]) ⟨hx, hb, hml, hown, hts⟩ hKK hP [0, 3, 5, 6] rfl 0 9 rfl rfl (c_X9_arePair l D cy q_t_lanes q_t_sizes q_t_items q_t_spare q_t_many q_t_px q_t_py q_t_pz q_t_strip q_t_kind q_t_byHand q_t_round q_t_lost q_t_shifts q_t_matrix q_t_right q_t_found q_t_high q_t_near q_t_cells q_t_part q_t_before q_t_tape q_t_what q_t_numbers q_t t_highs t_taped t_at t_fault t_steps t_strip t_px t_py v4 v5 _ h) (cwV 2 hts gX9_leftOver_X9_arePair rfl rfl rfl cdv_X9_arePair ⟨Nat.le_of_ble_eq_true rfl, Nat.le_of_ble_eq_true rfl⟩) rfl hl.1 rfl (Nat.le_of_ble_eq_true rfl) ⟨Nat.zero_le _, Nat.zero_le _⟩ dX9_leftOver_69) (fun r_10 h => ?_)
                refine lv_if_eq (tgt := 83) hx hb dX9_leftOver_72 (by decide) (fun c_ => ?_) (fun c_ => ?_)
                · have h := h.1 c_
                  refine lv_lconst (v := (0 : Int64)) hx hb dX9_leftOver_83 (by decide) ?_
                  exact j84 v5 v2 (0 : Int64) _ (lv_sub hl [1, 2, 4, 5] rfl) h
                · have h := h.2 c_
                  refine lv_lload hx hb dX9_leftOver_75 (lv_at hl 0 rfl) ?_
                  refine lv_lload hx hb dX9_leftOver_77 (lv_at hl 0 rfl) ?_
                  refine lv_lmul hx hb dX9_leftOver_79 ?_
                  refine lv_goto (tgt := 84) hx hb dX9_leftOver_80 (by decide) ?_
                  exact j84 v5 v2 (v6_9 * v6_9) _ (lv_sub hl [1, 2, 4, 5] rfl) h
          refine lv_iload hx hb dX9_leftOver_29 (lv_at hl 3 rfl) ?_
          refine lv_iconst (v := (1 : Int32)) hx hb dX9_leftOver_31 (by decide) ?_
          refine lv_iadd hx hb dX9_leftOver_32 ?_
          refine lv_topi (fun v5_11 ev5_11 => ?_)
          have h := h v5_11 ev5_11
          refine lv_istore (lv' := [(5, .int v5_11), (0, .ref q_t), (1, .int v1), (2, .long v2), (4, .int v4)]) hx hb dX9_leftOver_33 hl (by decide) rfl (fun ls hl => ?_)
          obtain ⟨n, h⟩ := h
          exact lp35 v4 n v2 v5_11 _ (lv_sub hl [1, 2, 3, 4, 0] rfl) h
    refine lv_lconst (v := (0 : Int64)) hx hb dX9_leftOver_11 (by decide) ?_
    refine lv_lstore_n (lv' := [(2, .long (0 : Int64)), (0, .ref q_t), (1, .int a1)]) hx hb dX9_leftOver_12 rfl hl (by decide) rfl (fun ls hl => ?_)
    refine lv_bipush (v := (100 : Int32)) hx hb dX9_leftOver_13 (by decide) ?_
    refine lv_iload_n hx hb dX9_leftOver_15 rfl (lv_at hl 2 rfl) ?_
    refine lv_imul hx hb dX9_leftOver_16 ?_
    refine lv_topi (fun v4_12 ev4_12 => ?_)
    have h := h v4_12 ev4_12
    refine lv_istore (lv' := [(4, .int v4_12), (2, .long (0 : Int64)), (0, .ref q_t), (1, .int a1)]) hx hb dX9_leftOver_17 hl (by decide) rfl (fun ls hl => ?_)
    obtain ⟨n, h⟩ := h
    exact lp19 a1 n (0 : Int64) v4_12 _ (lv_sub hl [2, 3, 1, 0] rfl) h
  · have h := h.1 c_
    refine lv_ldc2 (v := (-1 : Int64)) hx hb hown (hts (.constantLong RX9 141 (-1)) (List.mem_of_getElem? (i := 1) rfl)) dX9_leftOver_7 ?_
    exact W.lret (v := (-1 : Int64)) hx hb hr (fun t ht hW => ⟨(-1 : Int64), rfl, h, ht⟩) (fun _ hq => by cases hq) dX9_leftOver_10
