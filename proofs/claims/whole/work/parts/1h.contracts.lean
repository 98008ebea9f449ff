set_option maxHeartbeats 4000000 in
set_option maxRecDepth 100000 in
theorem c_X9_findRoof (l : Launch) (D : va_G) (cy : Nat → ClassId) (q_t_lanes q_t_sizes q_t_items q_t_spare q_t_many q_t_px q_t_py q_t_pz q_t_strip q_t_kind q_t_byHand q_t_round q_t_lost q_t_shifts q_t_matrix q_t_right q_t_found q_t_high q_t_near q_t_cells q_t_part q_t_before q_t_tape q_t_what q_t_numbers q_t : Nat) (t_highs : Int32) (t_taped : Int32) (t_at : Int32) (t_fault : Int32) (t_steps : Int32) (t_high : Nat → Int32) (t_px : Nat → Int32) (t_py : Nat → Int32) (t_pz : Nat → Int32) (t_strip : Nat → Int32) (t_shifts : Nat → Int32) (t_near : Nat → Int32) (t_kind : Nat → Int32) (a1 : Int32) (a2 : Int32) (a3 : Int32) (a4 : Int32) (sz : Nat) (Q : Int32 → Int32 → (Nat → Int32) → (Nat → Int32) → (Nat → Int32) → Prop) (h : wp_X9_findRoof t_highs t_high t_px t_py t_pz t_strip t_shifts t_near t_kind a1 a2 a3 a4 Q) : Met l yX9_findRoof wsX9_findRoof ({ frames := 2, cells := 0, slots := 0, locals := 75 } : Room) (py_Pw ([.ref q_t, .int a1, .int a2, .int a3, .int a4] : List Value) D cy [(q_t, .inr (9, [.ref q_t_lanes, .ref q_t_sizes, .ref q_t_items, .ref q_t_spare, .ref q_t_many, .ref q_t_px, .ref q_t_py, .ref q_t_pz, .ref q_t_strip, .ref q_t_kind, .ref q_t_byHand, .ref q_t_round, .ref q_t_lost, .ref q_t_shifts, .ref q_t_matrix, .ref q_t_right, .ref q_t_found, .ref q_t_high, .int t_highs, .ref q_t_near, .ref q_t_cells, .ref q_t_part, .ref q_t_before, .ref q_t_tape, .int t_taped, .int t_at, .int t_fault, .int t_steps, .ref q_t_what, .ref q_t_numbers])), (q_t_high, .inl (cy 0, (40, .inl t_high))), (q_t_px, .inl (cy 0, (200, .inl t_px))), (q_t_py, .inl (cy 0, (200, .inl t_py))), (q_t_pz, .inl (cy 0, (200, .inl t_pz))), (q_t_strip, .inl (cy 0, (200, .inl t_strip))), (q_t_shifts, .inl (cy 0, (8, .inl t_shifts))), (q_t_near, .inl (cy 1, (40, .inl t_near))), (q_t_kind, .inl (cy 0, (200, .inl t_kind)))] sz) (va_Qi (fun (r : Int32) (u : Int32 × (Nat → Int32) × (Nat → Int32) × (Nat → Int32)) => Q r u.1 u.2.1 u.2.2.1 u.2.2.2) (py_B D (fun (u : Int32 × (Nat → Int32) × (Nat → Int32) × (Nat → Int32)) => [(q_t, .inr (9, [.ref q_t_lanes, .ref q_t_sizes, .ref q_t_items, .ref q_t_spare, .ref q_t_many, .ref q_t_px, .ref q_t_py, .ref q_t_pz, .ref q_t_strip, .ref q_t_kind, .ref q_t_byHand, .ref q_t_round, .ref q_t_lost, .ref q_t_shifts, .ref q_t_matrix, .ref q_t_right, .ref q_t_found, .ref q_t_high, .int u.1, .ref q_t_near, .ref q_t_cells, .ref q_t_part, .ref q_t_before, .ref q_t_tape, .int t_taped, .int t_at, .int t_fault, .int t_steps, .ref q_t_what, .ref q_t_numbers])), (q_t_high, .inl (cy 0, (40, .inl u.2.1))), (q_t_px, .inl (cy 0, (200, .inl t_px))), (q_t_py, .inl (cy 0, (200, .inl t_py))), (q_t_pz, .inl (cy 0, (200, .inl t_pz))), (q_t_strip, .inl (cy 0, (200, .inl t_strip))), (q_t_shifts, .inl (cy 0, (8, .inl t_shifts))), (q_t_near, .inl (cy 1, (40, .inl u.2.2.1))), (q_t_kind, .inl (cy 0, (200, .inl u.2.2.2)))]) (va_A [(q_t, .inr (9, [.ref q_t_lanes, .ref q_t_sizes, .ref q_t_items, .ref q_t_spare, .ref q_t_many, .ref q_t_px, .ref q_t_py, .ref q_t_pz, .ref q_t_strip, .ref q_t_kind, .ref q_t_byHand, .ref q_t_round, .ref q_t_lost, .ref q_t_shifts, .ref q_t_matrix, .ref q_t_right, .ref q_t_found, .ref q_t_high, .int t_highs, .ref q_t_near, .ref q_t_cells, .ref q_t_part, .ref q_t_before, .ref q_t_tape, .int t_taped, .int t_at, .int t_fault, .int t_steps, .ref q_t_what, .ref q_t_numbers])), (q_t_high, .inl (cy 0, (40, .inl t_high))), (q_t_px, .inl (cy 0, (200, .inl t_px))), (q_t_py, .inl (cy 0, (200, .inl t_py))), (q_t_pz, .inl (cy 0, (200, .inl t_pz))), (q_t_strip, .inl (cy 0, (200, .inl t_strip))), (q_t_shifts, .inl (cy 0, (8, .inl t_shifts))), (q_t_near, .inl (cy 1, (40, .inl t_near))), (q_t_kind, .inl (cy 0, (200, .inl t_kind)))] sz)) (va_A [(q_t, .inr (9, [.ref q_t_lanes, .ref q_t_sizes, .ref q_t_items, .ref q_t_spare, .ref q_t_many, .ref q_t_px, .ref q_t_py, .ref q_t_pz, .ref q_t_strip, .ref q_t_kind, .ref q_t_byHand, .ref q_t_round, .ref q_t_lost, .ref q_t_shifts, .ref q_t_matrix, .ref q_t_right, .ref q_t_found, .ref q_t_high, .int t_highs, .ref q_t_near, .ref q_t_cells, .ref q_t_part, .ref q_t_before, .ref q_t_tape, .int t_taped, .int t_at, .int t_fault, .int t_steps, .ref q_t_what, .ref q_t_numbers])), (q_t_high, .inl (cy 0, (40, .inl t_high))), (q_t_px, .inl (cy 0, (200, .inl t_px))), (q_t_py, .inl (cy 0, (200, .inl t_py))), (q_t_pz, .inl (cy 0, (200, .inl t_pz))), (q_t_strip, .inl (cy 0, (200, .inl t_strip))), (q_t_shifts, .inl (cy 0, (8, .inl t_shifts))), (q_t_near, .inl (cy 1, (40, .inl t_near))), (q_t_kind, .inl (cy 0, (200, .inl t_kind)))] sz)) 0 0 (va_A [(q_t, .inr (9, [.ref q_t_lanes, .ref q_t_sizes, .ref q_t_items, .ref q_t_spare, .ref q_t_many, .ref q_t_px, .ref q_t_py, .ref q_t_pz, .ref q_t_strip, .ref q_t_kind, .ref q_t_byHand, .ref q_t_round, .ref q_t_lost, .ref q_t_shifts, .ref q_t_matrix, .ref q_t_right, .ref q_t_found, .ref q_t_high, .int t_highs, .ref q_t_near, .ref q_t_cells, .ref q_t_part, .ref q_t_before, .ref q_t_tape, .int t_taped, .int t_at, .int t_fault, .int t_steps, .ref q_t_what, .ref q_t_numbers])), (q_t_high, .inl (cy 0, (40, .inl t_high))), (q_t_px, .inl (cy 0, (200, .inl t_px))), (q_t_py, .inl (cy 0, (200, .inl t_py))), (q_t_pz, .inl (cy 0, (200, .inl t_pz))), (q_t_strip, .inl (cy 0, (200, .inl t_strip))), (q_t_shifts, .inl (cy 0, (8, .inl t_shifts))), (q_t_near, .inl (cy 1, (40, .inl t_near))), (q_t_kind, .inl (cy 0, (200, .inl t_kind)))] sz) := by
  refine Met.ofW (cc := cX9_findRoof) (maxL := 13) (ret := (some .boolean)) (by decide) rfl ?_
  intro p e s m args below meth c s₁ B hml hv
  obtain ⟨rfl, hsz, hP, hKK, hD0⟩ := hv
  have hK := hKK.1
  have hN := hKK.2
  have hx := B.exec
  have hb := B.bytes
  have hr := B.returns
  have hts := atoms_spec (ws := wsX9_findRoof) B.pre
  have hown : s.vm.findClass RX9 = some m.cls := findClass_of_methodNamed B.named
  have hlocks := B.notSynchronized
  have hi_X9 : ∀ w ∈ wsX90, w ∈ wsX9_findRoof := fun w h => List.mem_cons_of_mem _ (List.mem_append_right _ (h))
  subst hsz
  have hD := hD0.self (sz := s.heap.size)
  generalize hAe : va_A [(q_t, .inr (9, [.ref q_t_lanes, .ref q_t_sizes, .ref q_t_items, .ref q_t_spare, .ref q_t_many, .ref q_t_px, .ref q_t_py, .ref q_t_pz, .ref q_t_strip, .ref q_t_kind, .ref q_t_byHand, .ref q_t_round, .ref q_t_lost, .ref q_t_shifts, .ref q_t_matrix, .ref q_t_right, .ref q_t_found, .ref q_t_high, .int t_highs, .ref q_t_near, .ref q_t_cells, .ref q_t_part, .ref q_t_before, .ref q_t_tape, .int t_taped, .int t_at, .int t_fault, .int t_steps, .ref q_t_what, .ref q_t_numbers])), (q_t_high, .inl (cy 0, (40, .inl t_high))), (q_t_px, .inl (cy 0, (200, .inl t_px))), (q_t_py, .inl (cy 0, (200, .inl t_py))), (q_t_pz, .inl (cy 0, (200, .inl t_pz))), (q_t_strip, .inl (cy 0, (200, .inl t_strip))), (q_t_shifts, .inl (cy 0, (8, .inl t_shifts))), (q_t_near, .inl (cy 1, (40, .inl t_near))), (q_t_kind, .inl (cy 0, (200, .inl t_kind)))] s.heap.size = A at hD ⊢
  have hA : ∀ q : Nat, s.heap.size ≤ q → A q := fun q h => by rw [← hAe]; exact Or.inr h
  have hS : va_S A s.heap s.heap [] := va_S.rf
  have hl := lv_entry ([.ref q_t, .int a1, .int a2, .int a3, .int a4] : List Value) (n := 13) (Nat.le_of_ble_eq_true rfl)
  rw [lg_entry_eq]
  generalize (lg_sl ([.ref q_t, .int a1, .int a2, .int a3, .int a4] : List Value) ++ List.replicate (13 - (lg_sl ([.ref q_t, .int a1, .int a2, .int a3, .int a4] : List Value)).length) Slot.unset).toArray = ls at hl ⊢
  have hl : lv_has ls 13 [(0, .ref q_t), (1, .int a1), (2, .int a2), (3, .int a3), (4, .int a4)] := hl
  unfold wp_X9_findRoof at h
  have j139 : ∀ (t_highs : Int32) (t_high : Nat → Int32) (t_near : Nat → Int32) (t_kind : Nat → Int32) (v1 : Int32) (v2 : Int32) (v3 : Int32) (v4 : Int32) (v5 : Int32) (v6 : Int32) (v7 : Int32) (v8 : Int32) (H : Heap) (locs : List Loc), va_P D vwCl [(q_t, .inr (9, [.ref q_t_lanes, .ref q_t_sizes, .ref q_t_items, .ref q_t_spare, .ref q_t_many, .ref q_t_px, .ref q_t_py, .ref q_t_pz, .ref q_t_strip, .ref q_t_kind, .ref q_t_byHand, .ref q_t_round, .ref q_t_lost, .ref q_t_shifts, .ref q_t_matrix, .ref q_t_right, .ref q_t_found, .ref q_t_high, .int t_highs, .ref q_t_near, .ref q_t_cells, .ref q_t_part, .ref q_t_before, .ref q_t_tape, .int t_taped, .int t_at, .int t_fault, .int t_steps, .ref q_t_what, .ref q_t_numbers])), (q_t_high, .inl (cy 0, (40, .inl t_high))), (q_t_px, .inl (cy 0, (200, .inl t_px))), (q_t_py, .inl (cy 0, (200, .inl t_py))), (q_t_pz, .inl (cy 0, (200, .inl t_pz))), (q_t_strip, .inl (cy 0, (200, .inl t_strip))), (q_t_shifts, .inl (cy 0, (8, .inl t_shifts))), (q_t_near, .inl (cy 1, (40, .inl t_near))), (q_t_kind, .inl (cy 0, (200, .inl t_kind)))] H → va_D A [(q_t, .inr (9, [.ref q_t_lanes, .ref q_t_sizes, .ref q_t_items, .ref q_t_spare, .ref q_t_many, .ref q_t_px, .ref q_t_py, .ref q_t_pz, .ref q_t_strip, .ref q_t_kind, .ref q_t_byHand, .ref q_t_round, .ref q_t_lost, .ref q_t_shifts, .ref q_t_matrix, .ref q_t_right, .ref q_t_found, .ref q_t_high, .int t_highs, .ref q_t_near, .ref q_t_cells, .ref q_t_part, .ref q_t_before, .ref q_t_tape, .int t_taped, .int t_at, .int t_fault, .int t_steps, .ref q_t_what, .ref q_t_numbers])), (q_t_high, .inl (cy 0, (40, .inl t_high))), (q_t_px, .inl (cy 0, (200, .inl t_px))), (q_t_py, .inl (cy 0, (200, .inl t_py))), (q_t_pz, .inl (cy 0, (200, .inl t_pz))), (q_t_strip, .inl (cy 0, (200, .inl t_strip))), (q_t_shifts, .inl (cy 0, (8, .inl t_shifts))), (q_t_near, .inl (cy 1, (40, .inl t_near))), (q_t_kind, .inl (cy 0, (200, .inl t_kind)))] → va_S A s.heap H locs → ∀ (ls : Array Slot), lv_has ls 13 [(0, .ref q_t), (1, .int v1), (2, .int v2), (3, .int v3), (4, .int v4), (5, .int v5), (6, .int v6), (7, .int v7), (8, .int v8)] → wp_X9_findRoof_b139 Q t_px t_py t_pz t_strip t_shifts t_highs t_high t_near t_kind v1 v2 v3 v4 v5 v6 v7 v8 → W p l e (headSpec wsX9_findRoof ({ frames := 2, cells := 0, slots := 0, locals := 75 } : Room)).room s m (([.ref q_t, .int a1, .int a2, .int a3, .int a4] : List Value)).toArray below meth c H locs 0 0 (MQ below (va_Qi (fun (r : Int32) (u : Int32 × (Nat → Int32) × (Nat → Int32) × (Nat → Int32)) => Q r u.1 u.2.1 u.2.2.1 u.2.2.2) (py_B D (fun (u : Int32 × (Nat → Int32) × (Nat → Int32) × (Nat → Int32)) => [(q_t, .inr (9, [.ref q_t_lanes, .ref q_t_sizes, .ref q_t_items, .ref q_t_spare, .ref q_t_many, .ref q_t_px, .ref q_t_py, .ref q_t_pz, .ref q_t_strip, .ref q_t_kind, .ref q_t_byHand, .ref q_t_round, .ref q_t_lost, .ref q_t_shifts, .ref q_t_matrix, .ref q_t_right, .ref q_t_found, .ref q_t_high, .int u.1, .ref q_t_near, .ref q_t_cells, .ref q_t_part, .ref q_t_before, .ref q_t_tape, .int t_taped, .int t_at, .int t_fault, .int t_steps, .ref q_t_what, .ref q_t_numbers])), (q_t_high, .inl (cy 0, (40, .inl u.2.1))), (q_t_px, .inl (cy 0, (200, .inl t_px))), (q_t_py, .inl (cy 0, (200, .inl t_py))), (q_t_pz, .inl (cy 0, (200, .inl t_pz))), (q_t_strip, .inl (cy 0, (200, .inl t_strip))), (q_t_shifts, .inl (cy 0, (8, .inl t_shifts))), (q_t_near, .inl (cy 1, (40, .inl u.2.2.1))), (q_t_kind, .inl (cy 0, (200, .inl u.2.2.2)))]) A) A) (([.ref q_t, .int a1, .int a2, .int a3, .int a4] : List Value)).toArray s 0 0 A) (F0 m 139 ls []) := by
    intro t_highs t_high t_near t_kind v1 v2 v3 v4 v5 v6 v7 v8 H locs hP hD hS ls hl h
    unfold wp_X9_findRoof_b139 at h
    refine lv_iload hx hb dX9_findRoof_139 (lv_at hl 5 rfl) ?_
    refine lv_iload_n hx hb dX9_findRoof_141 rfl (lv_at hl 3 rfl) ?_
    refine lv_icmp_ge (tgt := 147) hx hb dX9_findRoof_142 (by decide) (fun c_ => ?_) (fun c_ => ?_)
    · have h := h.1 c_
      have j226 : ∀ (t_highs : Int32) (t_high : Nat → Int32) (t_near : Nat → Int32) (t_kind : Nat → Int32) (v10 : Int32) (H : Heap) (locs : List Loc), va_P D vwCl [(q_t, .inr (9, [.ref q_t_lanes, .ref q_t_sizes, .ref q_t_items, .ref q_t_spare, .ref q_t_many, .ref q_t_px, .ref q_t_py, .ref q_t_pz, .ref q_t_strip, .ref q_t_kind, .ref q_t_byHand, .ref q_t_round, .ref q_t_lost, .ref q_t_shifts, .ref q_t_matrix, .ref q_t_right, .ref q_t_found, .ref q_t_high, .int t_highs, .ref q_t_near, .ref q_t_cells, .ref q_t_part, .ref q_t_before, .ref q_t_tape, .int t_taped, .int t_at, .int t_fault, .int t_steps, .ref q_t_what, .ref q_t_numbers])), (q_t_high, .inl (cy 0, (40, .inl t_high))), (q_t_px, .inl (cy 0, (200, .inl t_px))), (q_t_py, .inl (cy 0, (200, .inl t_py))), (q_t_pz, .inl (cy 0, (200, .inl t_pz))), (q_t_strip, .inl (cy 0, (200, .inl t_strip))), (q_t_shifts, .inl (cy 0, (8, .inl t_shifts))), (q_t_near, .inl (cy 1, (40, .inl t_near))), (q_t_kind, .inl (cy 0, (200, .inl t_kind)))] H → va_D A [(q_t, .inr (9, [.ref q_t_lanes, .ref q_t_sizes, .ref q_t_items, .ref q_t_spare, .ref q_t_many, .ref q_t_px, .ref q_t_py, .ref q_t_pz, .ref q_t_strip, .ref q_t_kind, .ref q_t_byHand, .ref q_t_round, .ref q_t_lost, .ref q_t_shifts, .ref q_t_matrix, .ref q_t_right, .ref q_t_found, .ref q_t_high, .int t_highs, .ref q_t_near, .ref q_t_cells, .ref q_t_part, .ref q_t_before, .ref q_t_tape, .int t_taped, .int t_at, .int t_fault, .int t_steps, .ref q_t_what, .ref q_t_numbers])), (q_t_high, .inl (cy 0, (40, .inl t_high))), (q_t_px, .inl (cy 0, (200, .inl t_px))), (q_t_py, .inl (cy 0, (200, .inl t_py))), (q_t_pz, .inl (cy 0, (200, .inl t_pz))), (q_t_strip, .inl (cy 0, (200, .inl t_strip))), (q_t_shifts, .inl (cy 0, (8, .inl t_shifts))), (q_t_near, .inl (cy 1, (40, .inl t_near))), (q_t_kind, .inl (cy 0, (200, .inl t_kind)))] → va_S A s.heap H locs → ∀ (ls : Array Slot), lv_has ls 13 [(0, .ref q_t), (10, .int v10)] → wp_X9_findRoof_b226 Q t_highs t_high t_near t_kind v10 → W p l e (headSpec wsX9_findRoof ({ frames := 2, cells := 0, slots := 0, locals := 75 } : Room)).room s m (([.ref q_t, .int a1, .int a2, .int a3, .int a4] : List Value)).toArray below meth c H locs 0 0 (MQ below (va_Qi (fun (r : Int32) (u : Int32 × (Nat → Int32) × (Nat → Int32) × (Nat → Int32)) => Q r u.1 u.2.1 u.2.2.1 u.2.2.2) (py_B D (fun (u : Int32 × (Nat → Int32) × (Nat → Int32) × (Nat → Int32)) => [(q_t, .inr (9, [.ref q_t_lanes, .ref q_t_sizes, .ref q_t_items, .ref q_t_spare, .ref q_t_many, .ref q_t_px, .ref q_t_py, .ref q_t_pz, .ref q_t_strip, .ref q_t_kind, .ref q_t_byHand, .ref q_t_round, .ref q_t_lost, .ref q_t_shifts, .ref q_t_matrix, .ref q_t_right, .ref q_t_found, .ref q_t_high, .int u.1, .ref q_t_near, .ref q_t_cells, .ref q_t_part, .ref q_t_before, .ref q_t_tape, .int t_taped, .int t_at, .int t_fault, .int t_steps, .ref q_t_what, .ref q_t_numbers])), (q_t_high, .inl (cy 0, (40, .inl u.2.1))), (q_t_px, .inl (cy 0, (200, .inl t_px))), (q_t_py, .inl (cy 0, (200, .inl t_py))), (q_t_pz, .inl (cy 0, (200, .inl t_pz))), (q_t_strip, .inl (cy 0, (200, .inl t_strip))), (q_t_shifts, .inl (cy 0, (8, .inl t_shifts))), (q_t_near, .inl (cy 1, (40, .inl u.2.2.1))), (q_t_kind, .inl (cy 0, (200, .inl u.2.2.2)))]) A) A) (([.ref q_t, .int a1, .int a2, .int a3, .int a4] : List Value)).toArray s 0 0 A) (F0 m 226 ls []) := by
        intro t_highs t_high t_near t_kind v10 H locs hP hD hS ls hl h
        unfold wp_X9_findRoof_b226 at h
        refine lv_aload_n hx hb dX9_findRoof_226 rfl (lv_at hl 0 rfl) ?_
        refine lv_iload hx hb dX9_findRoof_227 (lv_at hl 1 rfl) ?_
        refine va_put (D := D) (ci := 9) (v := .int v10) (ty := tyX9 18) (C := RX9) (T := TX9) (N := 30) hx hb hts hi_X9 tyX9 tyX9_ok nmX9 hown hK hP hD hS 0 rfl rfl 18 (by decide) (hts (.fieldLink RX9 185 "RayGroundModel" "highs" "I") (List.mem_of_getElem? (i := 1) rfl)) (fun _ h9 => h9) rfl (tyX9_ok 18 (by decide)) rfl rfl (Nat.le_of_ble_eq_true rfl) dX9_findRoof_229 (fun H locs hP hD hS => ?_)
        have hP : va_P D vwCl [(q_t, .inr (9, [.ref q_t_lanes, .ref q_t_sizes, .ref q_t_items, .ref q_t_spare, .ref q_t_many, .ref q_t_px, .ref q_t_py, .ref q_t_pz, .ref q_t_strip, .ref q_t_kind, .ref q_t_byHand, .ref q_t_round, .ref q_t_lost, .ref q_t_shifts, .ref q_t_matrix, .ref q_t_right, .ref q_t_found, .ref q_t_high, .int v10, .ref q_t_near, .ref q_t_cells, .ref q_t_part, .ref q_t_before, .ref q_t_tape, .int t_taped, .int t_at, .int t_fault, .int t_steps, .ref q_t_what, .ref q_t_numbers])), (q_t_high, .inl (cy 0, (40, .inl t_high))), (q_t_px, .inl (cy 0, (200, .inl t_px))), (q_t_py, .inl (cy 0, (200, .inl t_py))), (q_t_pz, .inl (cy 0, (200, .inl t_pz))), (q_t_strip, .inl (cy 0, (200, .inl t_strip))), (q_t_shifts, .inl (cy 0, (8, .inl t_shifts))), (q_t_near, .inl (cy 1, (40, .inl t_near))), (q_t_kind, .inl (cy 0, (200, .inl t_kind)))] H := hP
        have hD : va_D A [(q_t, .inr (9, [.ref q_t_lanes, .ref q_t_sizes, .ref q_t_items, .ref q_t_spare, .ref q_t_many, .ref q_t_px, .ref q_t_py, .ref q_t_pz, .ref q_t_strip, .ref q_t_kind, .ref q_t_byHand, .ref q_t_round, .ref q_t_lost, .ref q_t_shifts, .ref q_t_matrix, .ref q_t_right, .ref q_t_found, .ref q_t_high, .int v10, .ref q_t_near, .ref q_t_cells, .ref q_t_part, .ref q_t_before, .ref q_t_tape, .int t_taped, .int t_at, .int t_fault, .int t_steps, .ref q_t_what, .ref q_t_numbers])), (q_t_high, .inl (cy 0, (40, .inl t_high))), (q_t_px, .inl (cy 0, (200, .inl t_px))), (q_t_py, .inl (cy 0, (200, .inl t_py))), (q_t_pz, .inl (cy 0, (200, .inl t_pz))), (q_t_strip, .inl (cy 0, (200, .inl t_strip))), (q_t_shifts, .inl (cy 0, (8, .inl t_shifts))), (q_t_near, .inl (cy 1, (40, .inl t_near))), (q_t_kind, .inl (cy 0, (200, .inl t_kind)))] := hD
        refine lv_iconst (v := (1 : Int32)) hx hb dX9_findRoof_232 (by decide) ?_
        exact W.zret (v := (1 : Int32)) hx hb hr rfl (fun t ht hW => ⟨⟨(1 : Int32), (v10, t_high, t_near, t_kind), rfl, h, by rw [ht]; exact hP, hD⟩, hS.F ht⟩) hS.2.2 dX9_findRoof_233
      have lp167 : ∀ (t_highs : Int32) (t_near : Nat → Int32) (v4 : Int32) (n167 : Nat) (t_high : Nat → Int32) (t_kind : Nat → Int32) (v10 : Int32) (v11 : Int32) (H : Heap) (locs : List Loc), va_P D vwCl [(q_t, .inr (9, [.ref q_t_lanes, .ref q_t_sizes, .ref q_t_items, .ref q_t_spare, .ref q_t_many, .ref q_t_px, .ref q_t_py, .ref q_t_pz, .ref q_t_strip, .ref q_t_kind, .ref q_t_byHand, .ref q_t_round, .ref q_t_lost, .ref q_t_shifts, .ref q_t_matrix, .ref q_t_right, .ref q_t_found, .ref q_t_high, .int t_highs, .ref q_t_near, .ref q_t_cells, .ref q_t_part, .ref q_t_before, .ref q_t_tape, .int t_taped, .int t_at, .int t_fault, .int t_steps, .ref q_t_what, .ref q_t_numbers])), (q_t_high, .inl (cy 0, (40, .inl t_high))), (q_t_px, .inl (cy 0, (200, .inl t_px))), (q_t_py, .inl (cy 0, (200, .inl t_py))), (q_t_pz, .inl (cy 0, (200, .inl t_pz))), (q_t_strip, .inl (cy 0, (200, .inl t_strip))), (q_t_shifts, .inl (cy 0, (8, .inl t_shifts))), (q_t_near, .inl (cy 1, (40, .inl t_near))), (q_t_kind, .inl (cy 0, (200, .inl t_kind)))] H → va_D A [(q_t, .inr (9, [.ref q_t_lanes, .ref q_t_sizes, .ref q_t_items, .ref q_t_spare, .ref q_t_many, .ref q_t_px, .ref q_t_py, .ref q_t_pz, .ref q_t_strip, .ref q_t_kind, .ref q_t_byHand, .ref q_t_round, .ref q_t_lost, .ref q_t_shifts, .ref q_t_matrix, .ref q_t_right, .ref q_t_found, .ref q_t_high, .int t_highs, .ref q_t_near, .ref q_t_cells, .ref q_t_part, .ref q_t_before, .ref q_t_tape, .int t_taped, .int t_at, .int t_fault, .int t_steps, .ref q_t_what, .ref q_t_numbers])), (q_t_high, .inl (cy 0, (40, .inl t_high))), (q_t_px, .inl (cy 0, (200, .inl t_px))), (q_t_py, .inl (cy 0, (200, .inl t_py))), (q_t_pz, .inl (cy 0, (200, .inl t_pz))), (q_t_strip, .inl (cy 0, (200, .inl t_strip))), (q_t_shifts, .inl (cy 0, (8, .inl t_shifts))), (q_t_near, .inl (cy 1, (40, .inl t_near))), (q_t_kind, .inl (cy 0, (200, .inl t_kind)))] → va_S A s.heap H locs → ∀ (ls : Array Slot), lv_has ls 13 [(0, .ref q_t), (4, .int v4), (10, .int v10), (11, .int v11)] → wp_X9_findRoof_b167 (wp_X9_findRoof_b226 Q) t_highs t_near v4 n167 t_high t_kind v10 v11 → W p l e (headSpec wsX9_findRoof ({ frames := 2, cells := 0, slots := 0, locals := 75 } : Room)).room s m (([.ref q_t, .int a1, .int a2, .int a3, .int a4] : List Value)).toArray below meth c H locs 0 0 (MQ below (va_Qi (fun (r : Int32) (u : Int32 × (Nat → Int32) × (Nat → Int32) × (Nat → Int32)) => Q r u.1 u.2.1 u.2.2.1 u.2.2.2) (py_B D (fun (u : Int32 × (Nat → Int32) × (Nat → Int32) × (Nat → Int32)) => [(q_t, .inr (9, [.ref q_t_lanes, .ref q_t_sizes, .ref q_t_items, .ref q_t_spare, .ref q_t_many, .ref q_t_px, .ref q_t_py, .ref q_t_pz, .ref q_t_strip, .ref q_t_kind, .ref q_t_byHand, .ref q_t_round, .ref q_t_lost, .ref q_t_shifts, .ref q_t_matrix, .ref q_t_right, .ref q_t_found, .ref q_t_high, .int u.1, .ref q_t_near, .ref q_t_cells, .ref q_t_part, .ref q_t_before, .ref q_t_tape, .int t_taped, .int t_at, .int t_fault, .int t_steps, .ref q_t_what, .ref q_t_numbers])), (q_t_high, .inl (cy 0, (40, .inl u.2.1))), (q_t_px, .inl (cy 0, (200, .inl t_px))), (q_t_py, .inl (cy 0, (200, .inl t_py))), (q_t_pz, .inl (cy 0, (200, .inl t_pz))), (q_t_strip, .inl (cy 0, (200, .inl t_strip))), (q_t_shifts, .inl (cy 0, (8, .inl t_shifts))), (q_t_near, .inl (cy 1, (40, .inl u.2.2.1))), (q_t_kind, .inl (cy 0, (200, .inl u.2.2.2)))]) A) A) (([.ref q_t, .int a1, .int a2, .int a3, .int a4] : List Value)).toArray s 0 0 A) (F0 m 167 ls []) := by
        intro t_highs t_near v4 n167
        induction n167 with
        | zero => intro t_high t_kind v10 v11 H locs hP hD hS ls hl h; exact False.elim h
        | succ n167 ih167 =>
          intro t_high t_kind v10 v11 H locs hP hD hS ls hl h
          have h : wp_X9_findRoof_b167_f (wp_X9_findRoof_b167 (wp_X9_findRoof_b226 Q) t_highs t_near v4 n167) (wp_X9_findRoof_b226 Q) t_highs t_near v4 t_high t_kind v10 v11 := h
          unfold wp_X9_findRoof_b167_f at h
          refine lv_iload hx hb dX9_findRoof_167 (lv_at hl 3 rfl) ?_
          refine lv_aload_n hx hb dX9_findRoof_169 rfl (lv_at hl 0 rfl) ?_
          refine va_get (D := D) (ci := 9) (C := RX9) (T := TX9) (N := 30) hx hb hts hi_X9 hown hK hP 0 rfl rfl 18 (by decide) (hts (.fieldLink RX9 185 "RayGroundModel" "highs" "I") (List.mem_of_getElem? (i := 1) rfl)) (fun _ h9 => h9) rfl dX9_findRoof_170 ?_
          refine lv_icmp_ge (tgt := 226) hx hb dX9_findRoof_173 (by decide) (fun c_ => ?_) (fun c_ => ?_)
          · have h := h.1 c_
            exact j226 t_highs t_high t_near t_kind v10 _ _ hP hD hS _ (lv_sub hl [0, 2] rfl) h
          · have h := h.2 c_
            have j220 : ∀ (t_high : Nat → Int32) (t_kind : Nat → Int32) (v10 : Int32) (v11 : Int32) (H : Heap) (locs : List Loc), va_P D vwCl [(q_t, .inr (9, [.ref q_t_lanes, .ref q_t_sizes, .ref q_t_items, .ref q_t_spare, .ref q_t_many, .ref q_t_px, .ref q_t_py, .ref q_t_pz, .ref q_t_strip, .ref q_t_kind, .ref q_t_byHand, .ref q_t_round, .ref q_t_lost, .ref q_t_shifts, .ref q_t_matrix, .ref q_t_right, .ref q_t_found, .ref q_t_high, .int t_highs, .ref q_t_near, .ref q_t_cells, .ref q_t_part, .ref q_t_before, .ref q_t_tape, .int t_taped, .int t_at, .int t_fault, .int t_steps, .ref q_t_what, .ref q_t_numbers])), (q_t_high, .inl (cy 0, (40, .inl t_high))), (q_t_px, .inl (cy 0, (200, .inl t_px))), (q_t_py, .inl (cy 0, (200, .inl t_py))), (q_t_pz, .inl (cy 0, (200, .inl t_pz))), (q_t_strip, .inl (cy 0, (200, .inl t_strip))), (q_t_shifts, .inl (cy 0, (8, .inl t_shifts))), (q_t_near, .inl (cy 1, (40, .inl t_near))), (q_t_kind, .inl (cy 0, (200, .inl t_kind)))] H → va_D A [(q_t, .inr (9, [.ref q_t_lanes, .ref q_t_sizes, .ref q_t_items, .ref q_t_spare, .ref q_t_many, .ref q_t_px, .ref q_t_py, .ref q_t_pz, .ref q_t_strip, .ref q_t_kind, .ref q_t_byHand, .ref q_t_round, .ref q_t_lost, .ref q_t_shifts, .ref q_t_matrix, .ref q_t_right, .ref q_t_found, .ref q_t_high, .int t_highs, .ref q_t_near, .ref q_t_cells, .ref q_t_part, .ref q_t_before, .ref q_t_tape, .int t_taped, .int t_at, .int t_fault, .int t_steps, .ref q_t_what, .ref q_t_numbers])), (q_t_high, .inl (cy 0, (40, .inl t_high))), (q_t_px, .inl (cy 0, (200, .inl t_px))), (q_t_py, .inl (cy 0, (200, .inl t_py))), (q_t_pz, .inl (cy 0, (200, .inl t_pz))), (q_t_strip, .inl (cy 0, (200, .inl t_strip))), (q_t_shifts, .inl (cy 0, (8, .inl t_shifts))), (q_t_near, .inl (cy 1, (40, .inl t_near))), (q_t_kind, .inl (cy 0, (200, .inl t_kind)))] → va_S A s.heap H locs → ∀ (ls : Array Slot), lv_has ls 13 [(0, .ref q_t), (4, .int v4), (10, .int v10), (11, .int v11)] → wp_X9_findRoof_b220 (wp_X9_findRoof_b167 (wp_X9_findRoof_b226 Q) t_highs t_near v4 n167) t_high t_kind v10 v11 → W p l e (headSpec wsX9_findRoof ({ frames := 2, cells := 0, slots := 0, locals := 75 } : Room)).room s m (([.ref q_t, .int a1, .int a2, .int a3, .int a4] : List Value)).toArray below meth c H locs 0 0 (MQ below (va_Qi (fun (r : Int32) (u : Int32 × (Nat → Int32) × (Nat → Int32) × (Nat → Int32)) => Q r u.1 u.2.1 u.2.2.1 u.2.2.2) (py_B D (fun (u : Int32 × (Nat → Int32) × (Nat → Int32) × (Nat → Int32)) => [(q_t, .inr (9, [.ref q_t_lanes, .ref q_t_sizes, .ref q_t_items, .ref q_t_spare, .ref q_t_many, .ref q_t_px, .ref q_t_py, .ref q_t_pz, .ref q_t_strip, .ref q_t_kind, .ref q_t_byHand, .ref q_t_round, .ref q_t_lost, .ref q_t_shifts, .ref q_t_matrix, .ref q_t_right, .ref q_t_found, .ref q_t_high, .int u.1, .ref q_t_near, .ref q_t_cells, .ref q_t_part, .ref q_t_before, .ref q_t_tape, .int t_taped, .int t_at, .int t_fault, .int t_steps, .ref q_t_what, .ref q_t_numbers])), (q_t_high, .inl (cy 0, (40, .inl u.2.1))), (q_t_px, .inl (cy 0, (200, .inl t_px))), (q_t_py, .inl (cy 0, (200, .inl t_py))), (q_t_pz, .inl (cy 0, (200, .inl t_pz))), (q_t_strip, .inl (cy 0, (200, .inl t_strip))), (q_t_shifts, .inl (cy 0, (8, .inl t_shifts))), (q_t_near, .inl (cy 1, (40, .inl u.2.2.1))), (q_t_kind, .inl (cy 0, (200, .inl u.2.2.2)))]) A) A) (([.ref q_t, .int a1, .int a2, .int a3, .int a4] : List Value)).toArray s 0 0 A) (F0 m 220 ls []) := by
              intro t_high t_kind v10 v11 H locs hP hD hS ls hl h
              unfold wp_X9_findRoof_b220 at h
              obtain ⟨v11_1, ev11_1⟩ : ∃ y : Int32, y = v11 + (1 : Int32) := ⟨_, rfl⟩
              have h := h v11_1 ev11_1
              refine lv_iinc (v := v11_1) (lv' := [(11, .int v11_1), (0, .ref q_t), (4, .int v4), (10, .int v10)]) hx hb dX9_findRoof_220 hl (k := 3) rfl (by rw [ev11_1]; rfl) (by decide) rfl (fun ls hl => ?_)
              refine lv_goto (tgt := 167) hx hb dX9_findRoof_223 (by decide) ?_
              exact ih167 t_high t_kind v10 v11_1 _ _ hP hD hS _ (lv_sub hl [1, 2, 3, 0] rfl) h
            refine lv_aload_n hx hb dX9_findRoof_176 rfl (lv_at hl 0 rfl) ?_
            refine va_get (D := D) (ci := 9) (C := RX9) (T := TX9) (N := 30) hx hb hts hi_X9 hown hK hP 0 rfl rfl 19 (by decide) (hts (.fieldLink RX9 66 "RayGroundModel" "near" "[Z") (List.mem_of_getElem? (i := 3) rfl)) (fun _ h9 => h9) rfl dX9_findRoof_177 ?_
            refine lv_iload hx hb dX9_findRoof_180 (lv_at hl 3 rfl) ?_
            refine py_zald hx hb hK hP 7 1 rfl rfl (k := v11.toNatClampNeg) rfl h.1 dX9_findRoof_182 ?_
            have h := h.2
            refine lv_if_eq (tgt := 203) hx hb dX9_findRoof_183 (by decide) (fun c_ => ?_) (fun c_ => ?_)
            · have h := h.1 c_
              refine lv_aload_n hx hb dX9_findRoof_203 rfl (lv_at hl 0 rfl) ?_
              refine va_get (D := D) (ci := 9) (C := RX9) (T := TX9) (N := 30) hx hb hts hi_X9 hown hK hP 0 rfl rfl 17 (by decide) (hts (.fieldLink RX9 63 "RayGroundModel" "high" "[I") (List.mem_of_getElem? (i := 2) rfl)) (fun _ h9 => h9) rfl dX9_findRoof_204 ?_
              refine lv_iload hx hb dX9_findRoof_207 (lv_at hl 2 rfl) ?_
              refine lv_aload_n hx hb dX9_findRoof_209 rfl (lv_at hl 0 rfl) ?_
              refine va_get (D := D) (ci := 9) (C := RX9) (T := TX9) (N := 30) hx hb hts hi_X9 hown hK hP 0 rfl rfl 17 (by decide) (hts (.fieldLink RX9 63 "RayGroundModel" "high" "[I") (List.mem_of_getElem? (i := 2) rfl)) (fun _ h9 => h9) rfl dX9_findRoof_210 ?_
              refine lv_iload hx hb dX9_findRoof_213 (lv_at hl 3 rfl) ?_
              refine py_iald hx hb hK hP 1 0 rfl rfl (k := v11.toNatClampNeg) rfl h.1 dX9_findRoof_215 ?_
              have h := h.2
              refine py_iast hx hb hK hP hD hS 1 0 rfl rfl (k := v10.toNatClampNeg) rfl h.1 dX9_findRoof_216 (fun H locs hP hD hS => ?_)
              have h := h.2
              have hP : va_P D vwCl [(q_t, .inr (9, [.ref q_t_lanes, .ref q_t_sizes, .ref q_t_items, .ref q_t_spare, .ref q_t_many, .ref q_t_px, .ref q_t_py, .ref q_t_pz, .ref q_t_strip, .ref q_t_kind, .ref q_t_byHand, .ref q_t_round, .ref q_t_lost, .ref q_t_shifts, .ref q_t_matrix, .ref q_t_right, .ref q_t_found, .ref q_t_high, .int t_highs, .ref q_t_near, .ref q_t_cells, .ref q_t_part, .ref q_t_before, .ref q_t_tape, .int t_taped, .int t_at, .int t_fault, .int t_steps, .ref q_t_what, .ref q_t_numbers])), (q_t_high, .inl (cy 0, (40, .inl (upd t_high v10.toNatClampNeg (t_high v11.toNatClampNeg))))), (q_t_px, .inl (cy 0, (200, .inl t_px))), (q_t_py, .inl (cy 0, (200, .inl t_py))), (q_t_pz, .inl (cy 0, (200, .inl t_pz))), (q_t_strip, .inl (cy 0, (200, .inl t_strip))), (q_t_shifts, .inl (cy 0, (8, .inl t_shifts))), (q_t_near, .inl (cy 1, (40, .inl t_near))), (q_t_kind, .inl (cy 0, (200, .inl t_kind)))] H := hP
              have hD : va_D A [(q_t, .inr (9, [.ref q_t_lanes, .ref q_t_sizes, .ref q_t_items, .ref q_t_spare, .ref q_t_many, .ref q_t_px, .ref q_t_py, .ref q_t_pz, .ref q_t_strip, .ref q_t_kind, .ref q_t_byHand, .ref q_t_round, .ref q_t_lost, .ref q_t_shifts, .ref q_t_matrix, .ref q_t_right, .ref q_t_found, .ref q_t_high, .int t_highs, .ref q_t_near, .ref q_t_cells, .ref q_t_part, .ref q_t_before, .ref q_t_tape, .int t_taped, .int t_at, .int t_fault, .int t_steps, .ref q_t_what, .ref q_t_numbers])), (q_t_high, .inl (cy 0, (40, .inl (upd t_high v10.toNatClampNeg (t_high v11.toNatClampNeg))))), (q_t_px, .inl (cy 0, (200, .inl t_px))), (q_t_py, .inl (cy 0, (200, .inl t_py))), (q_t_pz, .inl (cy 0, (200, .inl t_pz))), (q_t_strip, .inl (cy 0, (200, .inl t_strip))), (q_t_shifts, .inl (cy 0, (8, .inl t_shifts))), (q_t_near, .inl (cy 1, (40, .inl t_near))), (q_t_kind, .inl (cy 0, (200, .inl t_kind)))] := hD
              obtain ⟨v10_2, ev10_2⟩ : ∃ y : Int32, y = v10 + (1 : Int32) := ⟨_, rfl⟩
              have h := h v10_2 ev10_2
              refine lv_iinc (v := v10_2) (lv' := [(10, .int v10_2), (0, .ref q_t), (4, .int v4), (11, .int v11)]) hx hb dX9_findRoof_217 hl (k := 2) rfl (by rw [ev10_2]; rfl) (by decide) rfl (fun ls hl => ?_)
              exact j220 (upd t_high v10.toNatClampNeg (t_high v11.toNatClampNeg)) t_kind v10_2 v11 _ _ hP hD hS _ (lv_sub hl [1, 2, 0, 3] rfl) h
            · have h := h.2 c_
              refine lv_aload_n hx hb dX9_findRoof_186 rfl (lv_at hl 0 rfl) ?_
              refine va_get (D := D) (ci := 9) (C := RX9) (T := TX9) (N := 30) hx hb hts hi_X9 hown hK hP 0 rfl rfl 9 (by decide) (hts (.fieldLink RX9 37 "RayGroundModel" "kind" "[I") (List.mem_of_getElem? (i := 4) rfl)) (fun _ h9 => h9) rfl dX9_findRoof_187 ?_
              refine lv_aload_n hx hb dX9_findRoof_190 rfl (lv_at hl 0 rfl) ?_
              refine va_get (D := D) (ci := 9) (C := RX9) (T := TX9) (N := 30) hx hb hts hi_X9 hown hK hP 0 rfl rfl 17 (by decide) (hts (.fieldLink RX9 63 "RayGroundModel" "high" "[I") (List.mem_of_getElem? (i := 2) rfl)) (fun _ h9 => h9) rfl dX9_findRoof_191 ?_
              refine lv_iload hx hb dX9_findRoof_194 (lv_at hl 3 rfl) ?_
              refine py_iald hx hb hK hP 1 0 rfl rfl (k := v11.toNatClampNeg) rfl h.1 dX9_findRoof_196 ?_
              have h := h.2
              refine lv_iload hx hb dX9_findRoof_197 (lv_at hl 1 rfl) ?_
              refine py_iast hx hb hK hP hD hS 8 0 rfl rfl (k := (t_high v11.toNatClampNeg).toNatClampNeg) rfl h.1 dX9_findRoof_199 (fun H locs hP hD hS => ?_)
              have h := h.2
              have hP : va_P D vwCl [(q_t, .inr (9, [.ref q_t_lanes, .ref q_t_sizes, .ref q_t_items, .ref q_t_spare, .ref q_t_many, .ref q_t_px, .ref q_t_py, .ref q_t_pz, .ref q_t_strip, .ref q_t_kind, .ref q_t_byHand, .ref q_t_round, .ref q_t_lost, .ref q_t_shifts, .ref q_t_matrix, .ref q_t_right, .ref q_t_found, .ref q_t_high, .int t_highs, .ref q_t_near, .ref q_t_cells, .ref q_t_part, .ref q_t_before, .ref q_t_tape, .int t_taped, .int t_at, .int t_fault, .int t_steps, .ref q_t_what, .ref q_t_numbers])), (q_t_high, .inl (cy 0, (40, .inl t_high))), (q_t_px, .inl (cy 0, (200, .inl t_px))), (q_t_py, .inl (cy 0, (200, .inl t_py))), (q_t_pz, .inl (cy 0, (200, .inl t_pz))), (q_t_strip, .inl (cy 0, (200, .inl t_strip))), (q_t_shifts, .inl (cy 0, (8, .inl t_shifts))), (q_t_near, .inl (cy 1, (40, .inl t_near))), (q_t_kind, .inl (cy 0, (200, .inl (upd t_kind ((t_high v11.toNatClampNeg).toNatClampNeg) v4))))] H := hP
              have hD : va_D A [(q_t, .inr (9, [.ref q_t_lanes, .ref q_t_sizes, .ref q_t_items, .ref q_t_spare, .ref q_t_many, .ref q_t_px, .ref q_t_py, .ref q_t_pz, .ref q_t_strip, .ref q_t_kind, .ref q_t_byHand, .ref q_t_round, .ref q_t_lost, .ref q_t_shifts, .ref q_t_matrix, .ref q_t_right, .ref q_t_found, .ref q_t_high, .int t_highs, .ref q_t_near, .ref q_t_cells, .ref q_t_part, .ref q_t_before, .ref q_t_tape, .int t_taped, .int t_at, .int t_fault, .int t_steps, .ref q_t_what, .ref q_t_numbers])), (q_t_high, .inl (cy 0, (40, .inl t_high))), (q_t_px, .inl (cy 0, (200, .inl t_px))), (q_t_py, .inl (cy 0, (200, .inl t_py))), (q_t_pz, .inl (cy 0, (200, .inl t_pz))), (q_t_strip, .inl (cy 0, (200, .inl t_strip))), (q_t_shifts, .inl (cy 0, (8, .inl t_shifts))), (q_t_near, .inl (cy 1, (40, .inl t_near))), (q_t_kind, .inl (cy 0, (200, .inl (upd t_kind ((t_high v11.toNatClampNeg).toNatClampNeg) v4))))] := hD
              refine lv_goto (tgt := 220) hx hb dX9_findRoof_200 (by decide) ?_
              exact j220 t_high (upd t_kind ((t_high v11.toNatClampNeg).toNatClampNeg) v4) v10 v11 _ _ hP hD hS _ hl h
      refine lv_aload_n hx hb dX9_findRoof_147 rfl (lv_at hl 0 rfl) ?_
      refine lv_iload_n hx hb dX9_findRoof_148 rfl (lv_at hl 1 rfl) ?_
      refine lv_iload hx hb dX9_findRoof_149 (lv_at hl 6 rfl) ?_
      refine lv_iload hx hb dX9_findRoof_151 (lv_at hl 7 rfl) ?_
      refine lv_iload hx hb dX9_findRoof_153 (lv_at hl 8 rfl) ?_
      refine lv_iload_n hx hb dX9_findRoof_155 rfl (lv_at hl 2 rfl) ?_
      refine py_wi (wr := [(q_t_kind, .inl (cy 0, (200, .inl t_kind)))]) (py_rVw (As := [.int v1, .int v6, .int v7, .int v8, .int v2]) ⟨hx, hb, hml, hown, hts⟩ hKK hP hD [0, 2, 3, 4, 5, 6, 1, 7] rfl rfl rfl 0 9 rfl rfl (c_X9_nearPlane l D cy q_t_lanes q_t_sizes q_t_items q_t_spare q_t_many q_t_px q_t_py q_t_pz q_t_strip q_t_kind q_t_byHand q_t_round q_t_lost q_t_shifts q_t_matrix q_t_right q_t_found q_t_high q_t_near q_t_cells q_t_part q_t_before q_t_tape q_t_what q_t_numbers q_t t_highs t_taped t_at t_fault t_steps t_px t_py t_pz t_strip t_shifts t_high t_near v1 v6 v7 v8 v2 H.size _ h) (cwV 5 hts gX9_findRoof_X9_nearPlane rfl rfl rfl cdv_X9_nearPlane ⟨Nat.le_of_ble_eq_true rfl, Nat.le_of_ble_eq_true rfl⟩) rfl hl.1 rfl (Nat.le_of_ble_eq_true rfl) ⟨Nat.zero_le _, Nat.zero_le _⟩ dX9_findRoof_156) hP hD hS hA [0, 2, 3, 4, 5, 6, 1, 7] [8] rfl rfl rfl (by decide) (fun r_3 u H locs h hP hD hS => ?_)
      obtain ⟨c_near_4, rfl⟩ : ∃ z, z = u := ⟨_, rfl⟩
      have hP := hP.sub (ws' := [(q_t, .inr (9, [.ref q_t_lanes, .ref q_t_sizes, .ref q_t_items, .ref q_t_spare, .ref q_t_many, .ref q_t_px, .ref q_t_py, .ref q_t_pz, .ref q_t_strip, .ref q_t_kind, .ref q_t_byHand, .ref q_t_round, .ref q_t_lost, .ref q_t_shifts, .ref q_t_matrix, .ref q_t_right, .ref q_t_found, .ref q_t_high, .int t_highs, .ref q_t_near, .ref q_t_cells, .ref q_t_part, .ref q_t_before, .ref q_t_tape, .int t_taped, .int t_at, .int t_fault, .int t_steps, .ref q_t_what, .ref q_t_numbers])), (q_t_high, .inl (cy 0, (40, .inl t_high))), (q_t_px, .inl (cy 0, (200, .inl t_px))), (q_t_py, .inl (cy 0, (200, .inl t_py))), (q_t_pz, .inl (cy 0, (200, .inl t_pz))), (q_t_strip, .inl (cy 0, (200, .inl t_strip))), (q_t_shifts, .inl (cy 0, (8, .inl t_shifts))), (q_t_near, .inl (cy 1, (40, .inl c_near_4))), (q_t_kind, .inl (cy 0, (200, .inl t_kind)))]) [1, 7, 2, 3, 4, 5, 6, 8, 0] rfl
      have hD := hD.sub (ws' := [(q_t, .inr (9, [.ref q_t_lanes, .ref q_t_sizes, .ref q_t_items, .ref q_t_spare, .ref q_t_many, .ref q_t_px, .ref q_t_py, .ref q_t_pz, .ref q_t_strip, .ref q_t_kind, .ref q_t_byHand, .ref q_t_round, .ref q_t_lost, .ref q_t_shifts, .ref q_t_matrix, .ref q_t_right, .ref q_t_found, .ref q_t_high, .int t_highs, .ref q_t_near, .ref q_t_cells, .ref q_t_part, .ref q_t_before, .ref q_t_tape, .int t_taped, .int t_at, .int t_fault, .int t_steps, .ref q_t_what, .ref q_t_numbers])), (q_t_high, .inl (cy 0, (40, .inl t_high))), (q_t_px, .inl (cy 0, (200, .inl t_px))), (q_t_py, .inl (cy 0, (200, .inl t_py))), (q_t_pz, .inl (cy 0, (200, .inl t_pz))), (q_t_strip, .inl (cy 0, (200, .inl t_strip))), (q_t_shifts, .inl (cy 0, (8, .inl t_shifts))), (q_t_near, .inl (cy 1, (40, .inl c_near_4))), (q_t_kind, .inl (cy 0, (200, .inl t_kind)))]) [1, 7, 2, 3, 4, 5, 6, 8, 0] rfl rfl
      refine lv_istore (lv' := [(9, .int r_3), (0, .ref q_t), (1, .int v1), (2, .int v2), (3, .int v3), (4, .int v4), (5, .int v5), (6, .int v6), (7, .int v7), (8, .int v8)]) hx hb dX9_findRoof_159 hl (by decide) rfl (fun ls hl => ?_)
      refine lv_iconst (v := (0 : Int32)) hx hb dX9_findRoof_161 (by decide) ?_
      refine lv_istore (lv' := [(10, .int (0 : Int32)), (9, .int r_3), (0, .ref q_t), (1, .int v1), (2, .int v2), (3, .int v3), (4, .int v4), (5, .int v5), (6, .int v6), (7, .int v7), (8, .int v8)]) hx hb dX9_findRoof_162 hl (by decide) rfl (fun ls hl => ?_)
      refine lv_iconst (v := (0 : Int32)) hx hb dX9_findRoof_164 (by decide) ?_
      refine lv_istore (lv' := [(11, .int (0 : Int32)), (10, .int (0 : Int32)), (9, .int r_3), (0, .ref q_t), (1, .int v1), (2, .int v2), (3, .int v3), (4, .int v4), (5, .int v5), (6, .int v6), (7, .int v7), (8, .int v8)]) hx hb dX9_findRoof_165 hl (by decide) rfl (fun ls hl => ?_)
      obtain ⟨n, h⟩ := h
      exact lp167 t_highs c_near_4 v4 n t_high t_kind (0 : Int32) (0 : Int32) _ _ hP hD hS _ (lv_sub hl [3, 7, 1, 0] rfl) h
    · have h := h.2 c_
      refine lv_iconst (v := (0 : Int32)) hx hb dX9_findRoof_145 (by decide) ?_
      exact W.zret (v := (0 : Int32)) hx hb hr rfl (fun t ht hW => ⟨⟨(0 : Int32), (t_highs, t_high, t_near, t_kind), rfl, h, by rw [ht]; exact hP, hD⟩, hS.F ht⟩) hS.2.2 dX9_findRoof_146
  have lp15 : ∀ (t_highs : Int32) (t_high : Nat → Int32) (t_kind : Nat → Int32) (v1 : Int32) (v2 : Int32) (v3 : Int32) (v4 : Int32) (n15 : Nat) (t_near : Nat → Int32) (v5 : Int32) (v6 : Int32) (v7 : Int32) (v8 : Int32) (v9 : Int32) (H : Heap) (locs : List Loc), va_P D vwCl [(q_t, .inr (9, [.ref q_t_lanes, .ref q_t_sizes, .ref q_t_items, .ref q_t_spare, .ref q_t_many, .ref q_t_px, .ref q_t_py, .ref q_t_pz, .ref q_t_strip, .ref q_t_kind, .ref q_t_byHand, .ref q_t_round, .ref q_t_lost, .ref q_t_shifts, .ref q_t_matrix, .ref q_t_right, .ref q_t_found, .ref q_t_high, .int t_highs, .ref q_t_near, .ref q_t_cells, .ref q_t_part, .ref q_t_before, .ref q_t_tape, .int t_taped, .int t_at, .int t_fault, .int t_steps, .ref q_t_what, .ref q_t_numbers])), (q_t_high, .inl (cy 0, (40, .inl t_high))), (q_t_px, .inl (cy 0, (200, .inl t_px))), (q_t_py, .inl (cy 0, (200, .inl t_py))), (q_t_pz, .inl (cy 0, (200, .inl t_pz))), (q_t_strip, .inl (cy 0, (200, .inl t_strip))), (q_t_shifts, .inl (cy 0, (8, .inl t_shifts))), (q_t_near, .inl (cy 1, (40, .inl t_near))), (q_t_kind, .inl (cy 0, (200, .inl t_kind)))] H → va_D A [(q_t, .inr (9, [.ref q_t_lanes, .ref q_t_sizes, .ref q_t_items, .ref q_t_spare, .ref q_t_many, .ref q_t_px, .ref q_t_py, .ref q_t_pz, .ref q_t_strip, .ref q_t_kind, .ref q_t_byHand, .ref q_t_round, .ref q_t_lost, .ref q_t_shifts, .ref q_t_matrix, .ref q_t_right, .ref q_t_found, .ref q_t_high, .int t_highs, .ref q_t_near, .ref q_t_cells, .ref q_t_part, .ref q_t_before, .ref q_t_tape, .int t_taped, .int t_at, .int t_fault, .int t_steps, .ref q_t_what, .ref q_t_numbers])), (q_t_high, .inl (cy 0, (40, .inl t_high))), (q_t_px, .inl (cy 0, (200, .inl t_px))), (q_t_py, .inl (cy 0, (200, .inl t_py))), (q_t_pz, .inl (cy 0, (200, .inl t_pz))), (q_t_strip, .inl (cy 0, (200, .inl t_strip))), (q_t_shifts, .inl (cy 0, (8, .inl t_shifts))), (q_t_near, .inl (cy 1, (40, .inl t_near))), (q_t_kind, .inl (cy 0, (200, .inl t_kind)))] → va_S A s.heap H locs → ∀ (ls : Array Slot), lv_has ls 13 [(0, .ref q_t), (1, .int v1), (2, .int v2), (3, .int v3), (4, .int v4), (5, .int v5), (6, .int v6), (7, .int v7), (8, .int v8), (9, .int v9)] → wp_X9_findRoof_b15 (wp_X9_findRoof_b139 Q t_px t_py t_pz t_strip t_shifts) t_px t_py t_pz t_strip t_shifts t_highs t_high t_kind v1 v2 v3 v4 n15 t_near v5 v6 v7 v8 v9 → W p l e (headSpec wsX9_findRoof ({ frames := 2, cells := 0, slots := 0, locals := 75 } : Room)).room s m (([.ref q_t, .int a1, .int a2, .int a3, .int a4] : List Value)).toArray below meth c H locs 0 0 (MQ below (va_Qi (fun (r : Int32) (u : Int32 × (Nat → Int32) × (Nat → Int32) × (Nat → Int32)) => Q r u.1 u.2.1 u.2.2.1 u.2.2.2) (py_B D (fun (u : Int32 × (Nat → Int32) × (Nat → Int32) × (Nat → Int32)) => [(q_t, .inr (9, [.ref q_t_lanes, .ref q_t_sizes, .ref q_t_items, .ref q_t_spare, .ref q_t_many, .ref q_t_px, .ref q_t_py, .ref q_t_pz, .ref q_t_strip, .ref q_t_kind, .ref q_t_byHand, .ref q_t_round, .ref q_t_lost, .ref q_t_shifts, .ref q_t_matrix, .ref q_t_right, .ref q_t_found, .ref q_t_high, .int u.1, .ref q_t_near, .ref q_t_cells, .ref q_t_part, .ref q_t_before, .ref q_t_tape, .int t_taped, .int t_at, .int t_fault, .int t_steps, .ref q_t_what, .ref q_t_numbers])), (q_t_high, .inl (cy 0, (40, .inl u.2.1))), (q_t_px, .inl (cy 0, (200, .inl t_px))), (q_t_py, .inl (cy 0, (200, .inl t_py))), (q_t_pz, .inl (cy 0, (200, .inl t_pz))), (q_t_strip, .inl (cy 0, (200, .inl t_strip))), (q_t_shifts, .inl (cy 0, (8, .inl t_shifts))), (q_t_near, .inl (cy 1, (40, .inl u.2.2.1))), (q_t_kind, .inl (cy 0, (200, .inl u.2.2.2)))]) A) A) (([.ref q_t, .int a1, .int a2, .int a3, .int a4] : List Value)).toArray s 0 0 A) (F0 m 15 ls []) := by
    intro t_highs t_high t_kind v1 v2 v3 v4 n15
    induction n15 with
    | zero => intro t_near v5 v6 v7 v8 v9 H locs hP hD hS ls hl h; exact False.elim h
    | succ n15 ih15 =>
      intro t_near v5 v6 v7 v8 v9 H locs hP hD hS ls hl h
      have h : wp_X9_findRoof_b15_f (wp_X9_findRoof_b15 (wp_X9_findRoof_b139 Q t_px t_py t_pz t_strip t_shifts) t_px t_py t_pz t_strip t_shifts t_highs t_high t_kind v1 v2 v3 v4 n15) (wp_X9_findRoof_b139 Q t_px t_py t_pz t_strip t_shifts) t_px t_py t_pz t_strip t_shifts t_highs t_high t_kind v1 v2 v3 v4 t_near v5 v6 v7 v8 v9 := h
      unfold wp_X9_findRoof_b15_f at h
      refine lv_iload hx hb dX9_findRoof_15 (lv_at hl 9 rfl) ?_
      refine lv_aload_n hx hb dX9_findRoof_17 rfl (lv_at hl 0 rfl) ?_
      refine va_get (D := D) (ci := 9) (C := RX9) (T := TX9) (N := 30) hx hb hts hi_X9 hown hK hP 0 rfl rfl 18 (by decide) (hts (.fieldLink RX9 185 "RayGroundModel" "highs" "I") (List.mem_of_getElem? (i := 1) rfl)) (fun _ h9 => h9) rfl dX9_findRoof_18 ?_
      refine lv_icmp_ge (tgt := 139) hx hb dX9_findRoof_21 (by decide) (fun c_ => ?_) (fun c_ => ?_)
      · have h := h.1 c_
        exact j139 t_highs t_high t_near t_kind v1 v2 v3 v4 v5 v6 v7 v8 _ _ hP hD hS _ (lv_sub hl [0, 1, 2, 3, 4, 5, 6, 7, 8] rfl) h
      · have h := h.2 c_
        have j133 : ∀ (t_near : Nat → Int32) (v5 : Int32) (v6 : Int32) (v7 : Int32) (v8 : Int32) (v9 : Int32) (H : Heap) (locs : List Loc), va_P D vwCl [(q_t, .inr (9, [.ref q_t_lanes, .ref q_t_sizes, .ref q_t_items, .ref q_t_spare, .ref q_t_many, .ref q_t_px, .ref q_t_py, .ref q_t_pz, .ref q_t_strip, .ref q_t_kind, .ref q_t_byHand, .ref q_t_round, .ref q_t_lost, .ref q_t_shifts, .ref q_t_matrix, .ref q_t_right, .ref q_t_found, .ref q_t_high, .int t_highs, .ref q_t_near, .ref q_t_cells, .ref q_t_part, .ref q_t_before, .ref q_t_tape, .int t_taped, .int t_at, .int t_fault, .int t_steps, .ref q_t_what, .ref q_t_numbers])), (q_t_high, .inl (cy 0, (40, .inl t_high))), (q_t_px, .inl (cy 0, (200, .inl t_px))), (q_t_py, .inl (cy 0, (200, .inl t_py))), (q_t_pz, .inl (cy 0, (200, .inl t_pz))), (q_t_strip, .inl (cy 0, (200, .inl t_strip))), (q_t_shifts, .inl (cy 0, (8, .inl t_shifts))), (q_t_near, .inl (cy 1, (40, .inl t_near))), (q_t_kind, .inl (cy 0, (200, .inl t_kind)))] H → va_D A [(q_t, .inr (9, [.ref q_t_lanes, .ref q_t_sizes, .ref q_t_items, .ref q_t_spare, .ref q_t_many, .ref q_t_px, .ref q_t_py, .ref q_t_pz, .ref q_t_strip, .ref q_t_kind, .ref q_t_byHand, .ref q_t_round, .ref q_t_lost, .ref q_t_shifts, .ref q_t_matrix, .ref q_t_right, .ref q_t_found, .ref q_t_high, .int t_highs, .ref q_t_near, .ref q_t_cells, .ref q_t_part, .ref q_t_before, .ref q_t_tape, .int t_taped, .int t_at, .int t_fault, .int t_steps, .ref q_t_what, .ref q_t_numbers])), (q_t_high, .inl (cy 0, (40, .inl t_high))), (q_t_px, .inl (cy 0, (200, .inl t_px))), (q_t_py, .inl (cy 0, (200, .inl t_py))), (q_t_pz, .inl (cy 0, (200, .inl t_pz))), (q_t_strip, .inl (cy 0, (200, .inl t_strip))), (q_t_shifts, .inl (cy 0, (8, .inl t_shifts))), (q_t_near, .inl (cy 1, (40, .inl t_near))), (q_t_kind, .inl (cy 0, (200, .inl t_kind)))] → va_S A s.heap H locs → ∀ (ls : Array Slot), lv_has ls 13 [(0, .ref q_t), (1, .int v1), (2, .int v2), (3, .int v3), (4, .int v4), (5, .int v5), (6, .int v6), (7, .int v7), (8, .int v8), (9, .int v9)] → wp_X9_findRoof_b133 (wp_X9_findRoof_b15 (wp_X9_findRoof_b139 Q t_px t_py t_pz t_strip t_shifts) t_px t_py t_pz t_strip t_shifts t_highs t_high t_kind v1 v2 v3 v4 n15) t_near v5 v6 v7 v8 v9 → W p l e (headSpec wsX9_findRoof ({ frames := 2, cells := 0, slots := 0, locals := 75 } : Room)).room s m (([.ref q_t, .int a1, .int a2, .int a3, .int a4] : List Value)).toArray below meth c H locs 0 0 (MQ below (va_Qi (fun (r : Int32) (u : Int32 × (Nat → Int32) × (Nat → Int32) × (Nat → Int32)) => Q r u.1 u.2.1 u.2.2.1 u.2.2.2) (py_B D (fun (u : Int32 × (Nat → Int32) × (Nat → Int32) × (Nat → Int32)) => [(q_t, .inr (9, [.ref q_t_lanes, .ref q_t_sizes, .ref q_t_items, .ref q_t_spare, .ref q_t_many, .ref q_t_px, .ref q_t_py, .ref q_t_pz, .ref q_t_strip, .ref q_t_kind, .ref q_t_byHand, .ref q_t_round, .ref q_t_lost, .ref q_t_shifts, .ref q_t_matrix, .ref q_t_right, .ref q_t_found, .ref q_t_high, .int u.1, .ref q_t_near, .ref q_t_cells, .ref q_t_part, .ref q_t_before, .ref q_t_tape, .int t_taped, .int t_at, .int t_fault, .int t_steps, .ref q_t_what, .ref q_t_numbers])), (q_t_high, .inl (cy 0, (40, .inl u.2.1))), (q_t_px, .inl (cy 0, (200, .inl t_px))), (q_t_py, .inl (cy 0, (200, .inl t_py))), (q_t_pz, .inl (cy 0, (200, .inl t_pz))), (q_t_strip, .inl (cy 0, (200, .inl t_strip))), (q_t_shifts, .inl (cy 0, (8, .inl t_shifts))), (q_t_near, .inl (cy 1, (40, .inl u.2.2.1))), (q_t_kind, .inl (cy 0, (200, .inl u.2.2.2)))]) A) A) (([.ref q_t, .int a1, .int a2, .int a3, .int a4] : List Value)).toArray s 0 0 A) (F0 m 133 ls []) := by
          intro t_near v5 v6 v7 v8 v9 H locs hP hD hS ls hl h
          unfold wp_X9_findRoof_b133 at h
          obtain ⟨v9_5, ev9_5⟩ : ∃ y : Int32, y = v9 + (1 : Int32) := ⟨_, rfl⟩
          have h := h v9_5 ev9_5
          refine lv_iinc (v := v9_5) (lv' := [(9, .int v9_5), (0, .ref q_t), (1, .int v1), (2, .int v2), (3, .int v3), (4, .int v4), (5, .int v5), (6, .int v6), (7, .int v7), (8, .int v8)]) hx hb dX9_findRoof_133 hl (k := 9) rfl (by rw [ev9_5]; rfl) (by decide) rfl (fun ls hl => ?_)
          refine lv_goto (tgt := 15) hx hb dX9_findRoof_136 (by decide) ?_
          exact ih15 t_near v5 v6 v7 v8 v9_5 _ _ hP hD hS _ (lv_sub hl [1, 2, 3, 4, 5, 6, 7, 8, 9, 0] rfl) h
        have lp30 : ∀ (v9 : Int32) (n30 : Nat) (t_near : Nat → Int32) (v5 : Int32) (v6 : Int32) (v7 : Int32) (v8 : Int32) (v10 : Int32) (H : Heap) (locs : List Loc), va_P D vwCl [(q_t, .inr (9, [.ref q_t_lanes, .ref q_t_sizes, .ref q_t_items, .ref q_t_spare, .ref q_t_many, .ref q_t_px, .ref q_t_py, .ref q_t_pz, .ref q_t_strip, .ref q_t_kind, .ref q_t_byHand, .ref q_t_round, .ref q_t_lost, .ref q_t_shifts, .ref q_t_matrix, .ref q_t_right, .ref q_t_found, .ref q_t_high, .int t_highs, .ref q_t_near, .ref q_t_cells, .ref q_t_part, .ref q_t_before, .ref q_t_tape, .int t_taped, .int t_at, .int t_fault, .int t_steps, .ref q_t_what, .ref q_t_numbers])), (q_t_high, .inl (cy 0, (40, .inl t_high))), (q_t_px, .inl (cy 0, (200, .inl t_px))), (q_t_py, .inl (cy 0, (200, .inl t_py))), (q_t_pz, .inl (cy 0, (200, .inl t_pz))), (q_t_strip, .inl (cy 0, (200, .inl t_strip))), (q_t_shifts, .inl (cy 0, (8, .inl t_shifts))), (q_t_near, .inl (cy 1, (40, .inl t_near))), (q_t_kind, .inl (cy 0, (200, .inl t_kind)))] H → va_D A [(q_t, .inr (9, [.ref q_t_lanes, .ref q_t_sizes, .ref q_t_items, .ref q_t_spare, .ref q_t_many, .ref q_t_px, .ref q_t_py, .ref q_t_pz, .ref q_t_strip, .ref q_t_kind, .ref q_t_byHand, .ref q_t_round, .ref q_t_lost, .ref q_t_shifts, .ref q_t_matrix, .ref q_t_right, .ref q_t_found, .ref q_t_high, .int t_highs, .ref q_t_near, .ref q_t_cells, .ref q_t_part, .ref q_t_before, .ref q_t_tape, .int t_taped, .int t_at, .int t_fault, .int t_steps, .ref q_t_what, .ref q_t_numbers])), (q_t_high, .inl (cy 0, (40, .inl t_high))), (q_t_px, .inl (cy 0, (200, .inl t_px))), (q_t_py, .inl (cy 0, (200, .inl t_py))), (q_t_pz, .inl (cy 0, (200, .inl t_pz))), (q_t_strip, .inl (cy 0, (200, .inl t_strip))), (q_t_shifts, .inl (cy 0, (8, .inl t_shifts))), (q_t_near, .inl (cy 1, (40, .inl t_near))), (q_t_kind, .inl (cy 0, (200, .inl t_kind)))] → va_S A s.heap H locs → ∀ (ls : Array Slot), lv_has ls 13 [(0, .ref q_t), (1, .int v1), (2, .int v2), (3, .int v3), (4, .int v4), (5, .int v5), (6, .int v6), (7, .int v7), (8, .int v8), (9, .int v9), (10, .int v10)] → wp_X9_findRoof_b30 (wp_X9_findRoof_b133 (wp_X9_findRoof_b15 (wp_X9_findRoof_b139 Q t_px t_py t_pz t_strip t_shifts) t_px t_py t_pz t_strip t_shifts t_highs t_high t_kind v1 v2 v3 v4 n15)) t_px t_py t_pz t_strip t_shifts t_highs t_high v1 v2 v9 n30 t_near v5 v6 v7 v8 v10 → W p l e (headSpec wsX9_findRoof ({ frames := 2, cells := 0, slots := 0, locals := 75 } : Room)).room s m (([.ref q_t, .int a1, .int a2, .int a3, .int a4] : List Value)).toArray below meth c H locs 0 0 (MQ below (va_Qi (fun (r : Int32) (u : Int32 × (Nat → Int32) × (Nat → Int32) × (Nat → Int32)) => Q r u.1 u.2.1 u.2.2.1 u.2.2.2) (py_B D (fun (u : Int32 × (Nat → Int32) × (Nat → Int32) × (Nat → Int32)) => [(q_t, .inr (9, [.ref q_t_lanes, .ref q_t_sizes, .ref q_t_items, .ref q_t_spare, .ref q_t_many, .ref q_t_px, .ref q_t_py, .ref q_t_pz, .ref q_t_strip, .ref q_t_kind, .ref q_t_byHand, .ref q_t_round, .ref q_t_lost, .ref q_t_shifts, .ref q_t_matrix, .ref q_t_right, .ref q_t_found, .ref q_t_high, .int u.1, .ref q_t_near, .ref q_t_cells, .ref q_t_part, .ref q_t_before, .ref q_t_tape, .int t_taped, .int t_at, .int t_fault, .int t_steps, .ref q_t_what, .ref q_t_numbers])), (q_t_high, .inl (cy 0, (40, .inl u.2.1))), (q_t_px, .inl (cy 0, (200, .inl t_px))), (q_t_py, .inl (cy 0, (200, .inl t_py))), (q_t_pz, .inl (cy 0, (200, .inl t_pz))), (q_t_strip, .inl (cy 0, (200, .inl t_strip))), (q_t_shifts, .inl (cy 0, (8, .inl t_shifts))), (q_t_near, .inl (cy 1, (40, .inl u.2.2.1))), (q_t_kind, .inl (cy 0, (200, .inl u.2.2.2)))]) A) A) (([.ref q_t, .int a1, .int a2, .int a3, .int a4] : List Value)).toArray s 0 0 A) (F0 m 30 ls []) := by
          intro v9 n30
          induction n30 with
          | zero => intro t_near v5 v6 v7 v8 v10 H locs hP hD hS ls hl h; exact False.elim h
          | succ n30 ih30 =>
            intro t_near v5 v6 v7 v8 v10 H locs hP hD hS ls hl h
            have h : wp_X9_findRoof_b30_f (wp_X9_findRoof_b30 (wp_X9_findRoof_b133 (wp_X9_findRoof_b15 (wp_X9_findRoof_b139 Q t_px t_py t_pz t_strip t_shifts) t_px t_py t_pz t_strip t_shifts t_highs t_high t_kind v1 v2 v3 v4 n15)) t_px t_py t_pz t_strip t_shifts t_highs t_high v1 v2 v9 n30) (wp_X9_findRoof_b133 (wp_X9_findRoof_b15 (wp_X9_findRoof_b139 Q t_px t_py t_pz t_strip t_shifts) t_px t_py t_pz t_strip t_shifts t_highs t_high t_kind v1 v2 v3 v4 n15)) t_px t_py t_pz t_strip t_shifts t_highs t_high v1 v2 v9 t_near v5 v6 v7 v8 v10 := h
            unfold wp_X9_findRoof_b30_f at h
            refine lv_iload hx hb dX9_findRoof_30 (lv_at hl 10 rfl) ?_
            refine lv_aload_n hx hb dX9_findRoof_32 rfl (lv_at hl 0 rfl) ?_
            refine va_get (D := D) (ci := 9) (C := RX9) (T := TX9) (N := 30) hx hb hts hi_X9 hown hK hP 0 rfl rfl 18 (by decide) (hts (.fieldLink RX9 185 "RayGroundModel" "highs" "I") (List.mem_of_getElem? (i := 1) rfl)) (fun _ h9 => h9) rfl dX9_findRoof_33 ?_
            refine lv_icmp_ge (tgt := 133) hx hb dX9_findRoof_36 (by decide) (fun c_ => ?_) (fun c_ => ?_)
            · have h := h.1 c_
              exact j133 t_near v5 v6 v7 v8 v9 _ _ hP hD hS _ (lv_sub hl [0, 1, 2, 3, 4, 5, 6, 7, 8, 9] rfl) h
            · have h := h.2 c_
              have j127 : ∀ (t_near : Nat → Int32) (v5 : Int32) (v6 : Int32) (v7 : Int32) (v8 : Int32) (v10 : Int32) (H : Heap) (locs : List Loc), va_P D vwCl [(q_t, .inr (9, [.ref q_t_lanes, .ref q_t_sizes, .ref q_t_items, .ref q_t_spare, .ref q_t_many, .ref q_t_px, .ref q_t_py, .ref q_t_pz, .ref q_t_strip, .ref q_t_kind, .ref q_t_byHand, .ref q_t_round, .ref q_t_lost, .ref q_t_shifts, .ref q_t_matrix, .ref q_t_right, .ref q_t_found, .ref q_t_high, .int t_highs, .ref q_t_near, .ref q_t_cells, .ref q_t_part, .ref q_t_before, .ref q_t_tape, .int t_taped, .int t_at, .int t_fault, .int t_steps, .ref q_t_what, .ref q_t_numbers])), (q_t_high, .inl (cy 0, (40, .inl t_high))), (q_t_px, .inl (cy 0, (200, .inl t_px))), (q_t_py, .inl (cy 0, (200, .inl t_py))), (q_t_pz, .inl (cy 0, (200, .inl t_pz))), (q_t_strip, .inl (cy 0, (200, .inl t_strip))), (q_t_shifts, .inl (cy 0, (8, .inl t_shifts))), (q_t_near, .inl (cy 1, (40, .inl t_near))), (q_t_kind, .inl (cy 0, (200, .inl t_kind)))] H → va_D A [(q_t, .inr (9, [.ref q_t_lanes, .ref q_t_sizes, .ref q_t_items, .ref q_t_spare, .ref q_t_many, .ref q_t_px, .ref q_t_py, .ref q_t_pz, .ref q_t_strip, .ref q_t_kind, .ref q_t_byHand, .ref q_t_round, .ref q_t_lost, .ref q_t_shifts, .ref q_t_matrix, .ref q_t_right, .ref q_t_found, .ref q_t_high, .int t_highs, .ref q_t_near, .ref q_t_cells, .ref q_t_part, .ref q_t_before, .ref q_t_tape, .int t_taped, .int t_at, .int t_fault, .int t_steps, .ref q_t_what, .ref q_t_numbers])), (q_t_high, .inl (cy 0, (40, .inl t_high))), (q_t_px, .inl (cy 0, (200, .inl t_px))), (q_t_py, .inl (cy 0, (200, .inl t_py))), (q_t_pz, .inl (cy 0, (200, .inl t_pz))), (q_t_strip, .inl (cy 0, (200, .inl t_strip))), (q_t_shifts, .inl (cy 0, (8, .inl t_shifts))), (q_t_near, .inl (cy 1, (40, .inl t_near))), (q_t_kind, .inl (cy 0, (200, .inl t_kind)))] → va_S A s.heap H locs → ∀ (ls : Array Slot), lv_has ls 13 [(0, .ref q_t), (1, .int v1), (2, .int v2), (3, .int v3), (4, .int v4), (5, .int v5), (6, .int v6), (7, .int v7), (8, .int v8), (9, .int v9), (10, .int v10)] → wp_X9_findRoof_b127 (wp_X9_findRoof_b30 (wp_X9_findRoof_b133 (wp_X9_findRoof_b15 (wp_X9_findRoof_b139 Q t_px t_py t_pz t_strip t_shifts) t_px t_py t_pz t_strip t_shifts t_highs t_high t_kind v1 v2 v3 v4 n15)) t_px t_py t_pz t_strip t_shifts t_highs t_high v1 v2 v9 n30) t_near v5 v6 v7 v8 v10 → W p l e (headSpec wsX9_findRoof ({ frames := 2, cells := 0, slots := 0, locals := 75 } : Room)).room s m (([.ref q_t, .int a1, .int a2, .int a3, .int a4] : List Value)).toArray below meth c H locs 0 0 (MQ below (va_Qi (fun (r : Int32) (u : Int32 × (Nat → Int32) × (Nat → Int32) × (Nat → Int32)) => Q r u.1 u.2.1 u.2.2.1 u.2.2.2) (py_B D (fun (u : Int32 × (Nat → Int32) × (Nat → Int32) × (Nat → Int32)) => [(q_t, .inr (9, [.ref q_t_lanes, .ref q_t_sizes, .ref q_t_items, .ref q_t_spare, .ref q_t_many, .ref q_t_px, .ref q_t_py, .ref q_t_pz, .ref q_t_strip, .ref q_t_kind, .ref q_t_byHand, .ref q_t_round, .ref q_t_lost, .ref q_t_shifts, .ref q_t_matrix, .ref q_t_right, .ref q_t_found, .ref q_t_high, .int u.1, .ref q_t_near, .ref q_t_cells, .ref q_t_part, .ref q_t_before, .ref q_t_tape, .int t_taped, .int t_at, .int t_fault, .int t_steps, .ref q_t_what, .ref q_t_numbers])), (q_t_high, .inl (cy 0, (40, .inl u.2.1))), (q_t_px, .inl (cy 0, (200, .inl t_px))), (q_t_py, .inl (cy 0, (200, .inl t_py))), (q_t_pz, .inl (cy 0, (200, .inl t_pz))), (q_t_strip, .inl (cy 0, (200, .inl t_strip))), (q_t_shifts, .inl (cy 0, (8, .inl t_shifts))), (q_t_near, .inl (cy 1, (40, .inl u.2.2.1))), (q_t_kind, .inl (cy 0, (200, .inl u.2.2.2)))]) A) A) (([.ref q_t, .int a1, .int a2, .int a3, .int a4] : List Value)).toArray s 0 0 A) (F0 m 127 ls []) := by
                intro t_near v5 v6 v7 v8 v10 H locs hP hD hS ls hl h
                unfold wp_X9_findRoof_b127 at h
                obtain ⟨v10_6, ev10_6⟩ : ∃ y : Int32, y = v10 + (1 : Int32) := ⟨_, rfl⟩
                have h := h v10_6 ev10_6
                refine lv_iinc (v := v10_6) (lv' := [(10, .int v10_6), (0, .ref q_t), (1, .int v1), (2, .int v2), (3, .int v3), (4, .int v4), (5, .int v5), (6, .int v6), (7, .int v7), (8, .int v8), (9, .int v9)]) hx hb dX9_findRoof_127 hl (k := 10) rfl (by rw [ev10_6]; rfl) (by decide) rfl (fun ls hl => ?_)
                refine lv_goto (tgt := 30) hx hb dX9_findRoof_130 (by decide) ?_
                exact ih30 t_near v5 v6 v7 v8 v10_6 _ _ hP hD hS _ (lv_sub hl [1, 2, 3, 4, 5, 6, 7, 8, 9, 10, 0] rfl) h
              have lp45 : ∀ (v10 : Int32) (n45 : Nat) (t_near : Nat → Int32) (v5 : Int32) (v6 : Int32) (v7 : Int32) (v8 : Int32) (v11 : Int32) (H : Heap) (locs : List Loc), va_P D vwCl [(q_t, .inr (9, [.ref q_t_lanes, .ref q_t_sizes, .ref q_t_items, .ref q_t_spare, .ref q_t_many, .ref q_t_px, .ref q_t_py, .ref q_t_pz, .ref q_t_strip, .ref q_t_kind, .ref q_t_byHand, .ref q_t_round, .ref q_t_lost, .ref q_t_shifts, .ref q_t_matrix, .ref q_t_right, .ref q_t_found, .ref q_t_high, .int t_highs, .ref q_t_near, .ref q_t_cells, .ref q_t_part, .ref q_t_before, .ref q_t_tape, .int t_taped, .int t_at, .int t_fault, .int t_steps, .ref q_t_what, .ref q_t_numbers])), (q_t_high, .inl (cy 0, (40, .inl t_high))), (q_t_px, .inl (cy 0, (200, .inl t_px))), (q_t_py, .inl (cy 0, (200, .inl t_py))), (q_t_pz, .inl (cy 0, (200, .inl t_pz))), (q_t_strip, .inl (cy 0, (200, .inl t_strip))), (q_t_shifts, .inl (cy 0, (8, .inl t_shifts))), (q_t_near, .inl (cy 1, (40, .inl t_near))), (q_t_kind, .inl (cy 0, (200, .inl t_kind)))] H → va_D A [(q_t, .inr (9, [.ref q_t_lanes, .ref q_t_sizes, .ref q_t_items, .ref q_t_spare, .ref q_t_many, .ref q_t_px, .ref q_t_py, .ref q_t_pz, .ref q_t_strip, .ref q_t_kind, .ref q_t_byHand, .ref q_t_round, .ref q_t_lost, .ref q_t_shifts, .ref q_t_matrix, .ref q_t_right, .ref q_t_found, .ref q_t_high, .int t_highs, .ref q_t_near, .ref q_t_cells, .ref q_t_part, .ref q_t_before, .ref q_t_tape, .int t_taped, .int t_at, .int t_fault, .int t_steps, .ref q_t_what, .ref q_t_numbers])), (q_t_high, .inl (cy 0, (40, .inl t_high))), (q_t_px, .inl (cy 0, (200, .inl t_px))), (q_t_py, .inl (cy 0, (200, .inl t_py))), (q_t_pz, .inl (cy 0, (200, .inl t_pz))), (q_t_strip, .inl (cy 0, (200, .inl t_strip))), (q_t_shifts, .inl (cy 0, (8, .inl t_shifts))), (q_t_near, .inl (cy 1, (40, .inl t_near))), (q_t_kind, .inl (cy 0, (200, .inl t_kind)))] → va_S A s.heap H locs → ∀ (ls : Array Slot), lv_has ls 13 [(0, .ref q_t), (1, .int v1), (2, .int v2), (3, .int v3), (4, .int v4), (5, .int v5), (6, .int v6), (7, .int v7), (8, .int v8), (9, .int v9), (10, .int v10), (11, .int v11)] → wp_X9_findRoof_b45 (wp_X9_findRoof_b127 (wp_X9_findRoof_b30 (wp_X9_findRoof_b133 (wp_X9_findRoof_b15 (wp_X9_findRoof_b139 Q t_px t_py t_pz t_strip t_shifts) t_px t_py t_pz t_strip t_shifts t_highs t_high t_kind v1 v2 v3 v4 n15)) t_px t_py t_pz t_strip t_shifts t_highs t_high v1 v2 v9 n30)) t_px t_py t_pz t_strip t_shifts t_highs t_high v1 v2 v9 v10 n45 t_near v5 v6 v7 v8 v11 → W p l e (headSpec wsX9_findRoof ({ frames := 2, cells := 0, slots := 0, locals := 75 } : Room)).room s m (([.ref q_t, .int a1, .int a2, .int a3, .int a4] : List Value)).toArray below meth c H locs 0 0 (MQ below (va_Qi (fun (r : Int32) (u : Int32 × (Nat → Int32) × (Nat → Int32) × (Nat → Int32)) => Q r u.1 u.2.1 u.2.2.1 u.2.2.2) (py_B D (fun (u : Int32 × (Nat → Int32) × (Nat → Int32) × (Nat → Int32)) => [(q_t, .inr (9, [.ref q_t_lanes, .ref q_t_sizes, .ref q_t_items, .ref q_t_spare, .ref q_t_many, .ref q_t_px, .ref q_t_py, .ref q_t_pz, .ref q_t_strip, .ref q_t_kind, .ref q_t_byHand, .ref q_t_round, .ref q_t_lost, .ref q_t_shifts, .ref q_t_matrix, .ref q_t_right, .ref q_t_found, .ref q_t_high, .int u.1, .ref q_t_near, .ref q_t_cells, .ref q_t_part, .ref q_t_before, .ref q_t_tape, .int t_taped, .int t_at, .int t_fault, .int t_steps, .ref q_t_what, .ref q_t_numbers])), (q_t_high, .inl (cy 0, (40, .inl u.2.1))), (q_t_px, .inl (cy 0, (200, .inl t_px))), (q_t_py, .inl (cy 0, (200, .inl t_py))), (q_t_pz, .inl (cy 0, (200, .inl t_pz))), (q_t_strip, .inl (cy 0, (200, .inl t_strip))), (q_t_shifts, .inl (cy 0, (8, .inl t_shifts))), (q_t_near, .inl (cy 1, (40, .inl u.2.2.1))), (q_t_kind, .inl (cy 0, (200, .inl u.2.2.2)))]) A) A) (([.ref q_t, .int a1, .int a2, .int a3, .int a4] : List Value)).toArray s 0 0 A) (F0 m 45 ls []) := by
                intro v10 n45
                induction n45 with
                | zero => intro t_near v5 v6 v7 v8 v11 H locs hP hD hS ls hl h; exact False.elim h
                | succ n45 ih45 =>
                  intro t_near v5 v6 v7 v8 v11 H locs hP hD hS ls hl h
                  have h : wp_X9_findRoof_b45_f (wp_X9_findRoof_b45 (wp_X9_findRoof_b127 (wp_X9_findRoof_b30 (wp_X9_findRoof_b133 (wp_X9_findRoof_b15 (wp_X9_findRoof_b139 Q t_px t_py t_pz t_strip t_shifts) t_px t_py t_pz t_strip t_shifts t_highs t_high t_kind v1 v2 v3 v4 n15)) t_px t_py t_pz t_strip t_shifts t_highs t_high v1 v2 v9 n30)) t_px t_py t_pz t_strip t_shifts t_highs t_high v1 v2 v9 v10 n45) (wp_X9_findRoof_b127 (wp_X9_findRoof_b30 (wp_X9_findRoof_b133 (wp_X9_findRoof_b15 (wp_X9_findRoof_b139 Q t_px t_py t_pz t_strip t_shifts) t_px t_py t_pz t_strip t_shifts t_highs t_high t_kind v1 v2 v3 v4 n15)) t_px t_py t_pz t_strip t_shifts t_highs t_high v1 v2 v9 n30)) t_px t_py t_pz t_strip t_shifts t_highs t_high v1 v2 v9 v10 t_near v5 v6 v7 v8 v11 := h
                  unfold wp_X9_findRoof_b45_f at h
                  refine lv_iload hx hb dX9_findRoof_45 (lv_at hl 11 rfl) ?_
                  refine lv_aload_n hx hb dX9_findRoof_47 rfl (lv_at hl 0 rfl) ?_
                  refine va_get (D := D) (ci := 9) (C := RX9) (T := TX9) (N := 30) hx hb hts hi_X9 hown hK hP 0 rfl rfl 18 (by decide) (hts (.fieldLink RX9 185 "RayGroundModel" "highs" "I") (List.mem_of_getElem? (i := 1) rfl)) (fun _ h9 => h9) rfl dX9_findRoof_48 ?_
                  refine lv_icmp_ge (tgt := 127) hx hb dX9_findRoof_51 (by decide) (fun c_ => ?_) (fun c_ => ?_)
                  · have h := h.1 c_
                    exact j127 t_near v5 v6 v7 v8 v10 _ _ hP hD hS _ (lv_sub hl [0, 1, 2, 3, 4, 5, 6, 7, 8, 9, 10] rfl) h
                  · have h := h.2 c_
                    have j121 : ∀ (t_near : Nat → Int32) (v5 : Int32) (v6 : Int32) (v7 : Int32) (v8 : Int32) (v11 : Int32) (H : Heap) (locs : List Loc), va_P D vwCl [(q_t, .inr (9, [.ref q_t_lanes, .ref q_t_sizes, .ref q_t_items, .ref q_t_spare, .ref q_t_many, .ref q_t_px, .ref q_t_py, .ref q_t_pz, .ref q_t_strip, .ref q_t_kind, .ref q_t_byHand, .ref q_t_round, .ref q_t_lost, .ref q_t_shifts, .ref q_t_matrix, .ref q_t_right, .ref q_t_found, .ref q_t_high, .int t_highs, .ref q_t_near, .ref q_t_cells, .ref q_t_part, .ref q_t_before, .ref q_t_tape, .int t_taped, .int t_at, .int t_fault, .int t_steps, .ref q_t_what, .ref q_t_numbers])), (q_t_high, .inl (cy 0, (40, .inl t_high))), (q_t_px, .inl (cy 0, (200, .inl t_px))), (q_t_py, .inl (cy 0, (200, .inl t_py))), (q_t_pz, .inl (cy 0, (200, .inl t_pz))), (q_t_strip, .inl (cy 0, (200, .inl t_strip))), (q_t_shifts, .inl (cy 0, (8, .inl t_shifts))), (q_t_near, .inl (cy 1, (40, .inl t_near))), (q_t_kind, .inl (cy 0, (200, .inl t_kind)))] H → va_D A [(q_t, .inr (9, [.ref q_t_lanes, .ref q_t_sizes, .ref q_t_items, .ref q_t_spare, .ref q_t_many, .ref q_t_px, .ref q_t_py, .ref q_t_pz, .ref q_t_strip, .ref q_t_kind, .ref q_t_byHand, .ref q_t_round, .ref q_t_lost, .ref q_t_shifts, .ref q_t_matrix, .ref q_t_right, .ref q_t_found, .ref q_t_high, .int t_highs, .ref q_t_near, .ref q_t_cells, .ref q_t_part, .ref q_t_before, .ref q_t_tape, .int t_taped, .int t_at, .int t_fault, .int t_steps, .ref q_t_what, .ref q_t_numbers])), (q_t_high, .inl (cy 0, (40, .inl t_high))), (q_t_px, .inl (cy 0, (200, .inl t_px))), (q_t_py, .inl (cy 0, (200, .inl t_py))), (q_t_pz, .inl (cy 0, (200, .inl t_pz))), (q_t_strip, .inl (cy 0, (200, .inl t_strip))), (q_t_shifts, .inl (cy 0, (8, .inl t_shifts))), (q_t_near, .inl (cy 1, (40, .inl t_near))), (q_t_kind, .inl (cy 0, (200, .inl t_kind)))] → va_S A s.heap H locs → ∀ (ls : Array Slot), lv_has ls 13 [(0, .ref q_t), (1, .int v1), (2, .int v2), (3, .int v3), (4, .int v4), (5, .int v5), (6, .int v6), (7, .int v7), (8, .int v8), (9, .int v9), (10, .int v10), (11, .int v11)] → wp_X9_findRoof_b121 (wp_X9_findRoof_b45 (wp_X9_findRoof_b127 (wp_X9_findRoof_b30 (wp_X9_findRoof_b133 (wp_X9_findRoof_b15 (wp_X9_findRoof_b139 Q t_px t_py t_pz t_strip t_shifts) t_px t_py t_pz t_strip t_shifts t_highs t_high t_kind v1 v2 v3 v4 n15)) t_px t_py t_pz t_strip t_shifts t_highs t_high v1 v2 v9 n30)) t_px t_py t_pz t_strip t_shifts t_highs t_high v1 v2 v9 v10 n45) t_near v5 v6 v7 v8 v11 → W p l e (headSpec wsX9_findRoof ({ frames := 2, cells := 0, slots := 0, locals := 75 } : Room)).room s m (([.ref q_t, .int a1, .int a2, .int a3, .int a4] : List Value)).toArray below meth c H locs 0 0 (MQ below (va_Qi (fun (r : Int32) (u : Int32 × (Nat → Int32) × (Nat → Int32) × (Nat → Int32)) => Q r u.1 u.2.1 u.2.2.1 u.2.2.2) (py_B D (fun (u : Int32 × (Nat → Int32) × (Nat → Int32) × (Nat → Int32)) => [(q_t, .inr (9, [.ref q_t_lanes, .ref q_t_sizes, .ref q_t_items, .ref q_t_spare, .ref q_t_many, .ref q_t_px, .ref q_t_py, .ref q_t_pz, .ref q_t_strip, .ref q_t_kind, .ref q_t_byHand, .ref q_t_round, .ref q_t_lost, .ref q_t_shifts, .ref q_t_matrix, .ref q_t_right, .ref q_t_found, .ref q_t_high, .int u.1, .ref q_t_near, .ref q_t_cells, .ref q_t_part, .ref q_t_before, .ref q_t_tape, .int t_taped, .int t_at, .int t_fault, .int t_steps, .ref q_t_what, .ref q_t_numbers])), (q_t_high, .inl (cy 0, (40, .inl u.2.1))), (q_t_px, .inl (cy 0, (200, .inl t_px))), (q_t_py, .inl (cy 0, (200, .inl t_py))), (q_t_pz, .inl (cy 0, (200, .inl t_pz))), (q_t_strip, .inl (cy 0, (200, .inl t_strip))), (q_t_shifts, .inl (cy 0, (8, .inl t_shifts))), (q_t_near, .inl (cy 1, (40, .inl u.2.2.1))), (q_t_kind, .inl (cy 0, (200, .inl u.2.2.2)))]) A) A) (([.ref q_t, .int a1, .int a2, .int a3, .int a4] : List Value)).toArray s 0 0 A) (F0 m 121 ls []) := by
                      intro t_near v5 v6 v7 v8 v11 H locs hP hD hS ls hl h
                      unfold wp_X9_findRoof_b121 at h
                      obtain ⟨v11_7, ev11_7⟩ : ∃ y : Int32, y = v11 + (1 : Int32) := ⟨_, rfl⟩
                      have h := h v11_7 ev11_7
                      refine lv_iinc (v := v11_7) (lv' := [(11, .int v11_7), (0, .ref q_t), (1, .int v1), (2, .int v2), (3, .int v3), (4, .int v4), (5, .int v5), (6, .int v6), (7, .int v7), (8, .int v8), (9, .int v9), (10, .int v10)]) hx hb dX9_findRoof_121 hl (k := 11) rfl (by rw [ev11_7]; rfl) (by decide) rfl (fun ls hl => ?_)
                      refine lv_goto (tgt := 45) hx hb dX9_findRoof_124 (by decide) ?_
                      exact ih45 t_near v5 v6 v7 v8 v11_7 _ _ hP hD hS _ (lv_sub hl [1, 2, 3, 4, 5, 6, 7, 8, 9, 10, 11, 0] rfl) h
                    refine lv_aload_n hx hb dX9_findRoof_54 rfl (lv_at hl 0 rfl) ?_
                    refine lv_iload_n hx hb dX9_findRoof_55 rfl (lv_at hl 1 rfl) ?_
                    refine lv_aload_n hx hb dX9_findRoof_56 rfl (lv_at hl 0 rfl) ?_
                    refine va_get (D := D) (ci := 9) (C := RX9) (T := TX9) (N := 30) hx hb hts hi_X9 hown hK hP 0 rfl rfl 17 (by decide) (hts (.fieldLink RX9 63 "RayGroundModel" "high" "[I") (List.mem_of_getElem? (i := 2) rfl)) (fun _ h9 => h9) rfl dX9_findRoof_57 ?_
                    refine lv_iload hx hb dX9_findRoof_60 (lv_at hl 9 rfl) ?_
                    refine py_iald hx hb hK hP 1 0 rfl rfl (k := v9.toNatClampNeg) rfl h.1 dX9_findRoof_62 ?_
                    have h := h.2
                    refine lv_aload_n hx hb dX9_findRoof_63 rfl (lv_at hl 0 rfl) ?_
                    refine va_get (D := D) (ci := 9) (C := RX9) (T := TX9) (N := 30) hx hb hts hi_X9 hown hK hP 0 rfl rfl 17 (by decide) (hts (.fieldLink RX9 63 "RayGroundModel" "high" "[I") (List.mem_of_getElem? (i := 2) rfl)) (fun _ h9 => h9) rfl dX9_findRoof_64 ?_
                    refine lv_iload hx hb dX9_findRoof_67 (lv_at hl 10 rfl) ?_
                    refine py_iald hx hb hK hP 1 0 rfl rfl (k := v10.toNatClampNeg) rfl h.1 dX9_findRoof_69 ?_
                    have h := h.2
                    refine lv_aload_n hx hb dX9_findRoof_70 rfl (lv_at hl 0 rfl) ?_
                    refine va_get (D := D) (ci := 9) (C := RX9) (T := TX9) (N := 30) hx hb hts hi_X9 hown hK hP 0 rfl rfl 17 (by decide) (hts (.fieldLink RX9 63 "RayGroundModel" "high" "[I") (List.mem_of_getElem? (i := 2) rfl)) (fun _ h9 => h9) rfl dX9_findRoof_71 ?_
                    refine lv_iload hx hb dX9_findRoof_74 (lv_at hl 11 rfl) ?_
                    refine py_iald hx hb hK hP 1 0 rfl rfl (k := v11.toNatClampNeg) rfl h.1 dX9_findRoof_76 ?_
                    have h := h.2
                    refine lv_iload_n hx hb dX9_findRoof_77 rfl (lv_at hl 2 rfl) ?_
                    refine py_wi (wr := [(q_t_kind, .inl (cy 0, (200, .inl t_kind)))]) (py_rVw (As := [.int v1, .int (t_high v9.toNatClampNeg), .int (t_high v10.toNatClampNeg), .int (t_high v11.toNatClampNeg), .int v2]) ⟨hx, hb, hml, hown, hts⟩ hKK hP hD [0, 2, 3, 4, 5, 6, 1, 7] rfl rfl rfl 0 9 rfl rfl (c_X9_nearPlane l D cy q_t_lanes q_t_sizes q_t_items q_t_spare q_t_many q_t_px q_t_py q_t_pz q_t_strip q_t_kind q_t_byHand q_t_round q_t_lost q_t_shifts q_t_matrix q_t_right q_t_found q_t_high q_t_near q_t_cells q_t_part q_t_before q_t_tape q_t_what q_t_numbers q_t t_highs t_taped t_at t_fault t_steps t_px t_py t_pz t_strip t_shifts t_high t_near v1 (t_high v9.toNatClampNeg) (t_high v10.toNatClampNeg) (t_high v11.toNatClampNeg) v2 H.size _ h) (cwV 5 hts gX9_findRoof_X9_nearPlane rfl rfl rfl cdv_X9_nearPlane ⟨Nat.le_of_ble_eq_true rfl, Nat.le_of_ble_eq_true rfl⟩) rfl hl.1 rfl (Nat.le_of_ble_eq_true rfl) ⟨Nat.zero_le _, Nat.zero_le _⟩ dX9_findRoof_78) hP hD hS hA [0, 2, 3, 4, 5, 6, 1, 7] [8] rfl rfl rfl (by decide) (fun r_8 u H locs h hP hD hS => ?_)
                    obtain ⟨c_near_9, rfl⟩ : ∃ z, z = u := ⟨_, rfl⟩
                    have hP := hP.sub (ws' := [(q_t, .inr (9, [.ref q_t_lanes, .ref q_t_sizes, .ref q_t_items, .ref q_t_spare, .ref q_t_many, .ref q_t_px, .ref q_t_py, .ref q_t_pz, .ref q_t_strip, .ref q_t_kind, .ref q_t_byHand, .ref q_t_round, .ref q_t_lost, .ref q_t_shifts, .ref q_t_matrix, .ref q_t_right, .ref q_t_found, .ref q_t_high, .int t_highs, .ref q_t_near, .ref q_t_cells, .ref q_t_part, .ref q_t_before, .ref q_t_tape, .int t_taped, .int t_at, .int t_fault, .int t_steps, .ref q_t_what, .ref q_t_numbers])), (q_t_high, .inl (cy 0, (40, .inl t_high))), (q_t_px, .inl (cy 0, (200, .inl t_px))), (q_t_py, .inl (cy 0, (200, .inl t_py))), (q_t_pz, .inl (cy 0, (200, .inl t_pz))), (q_t_strip, .inl (cy 0, (200, .inl t_strip))), (q_t_shifts, .inl (cy 0, (8, .inl t_shifts))), (q_t_near, .inl (cy 1, (40, .inl c_near_9))), (q_t_kind, .inl (cy 0, (200, .inl t_kind)))]) [1, 7, 2, 3, 4, 5, 6, 8, 0] rfl
                    have hD := hD.sub (ws' := [(q_t, .inr (9, [.ref q_t_lanes, .ref q_t_sizes, .ref q_t_items, .ref q_t_spare, .ref q_t_many, .ref q_t_px, .ref q_t_py, .ref q_t_pz, .ref q_t_strip, .ref q_t_kind, .ref q_t_byHand, .ref q_t_round, .ref q_t_lost, .ref q_t_shifts, .ref q_t_matrix, .ref q_t_right, .ref q_t_found, .ref q_t_high, .int t_highs, .ref q_t_near, .ref q_t_cells, .ref q_t_part, .ref q_t_before, .ref q_t_tape, .int t_taped, .int t_at, .int t_fault, .int t_steps, .ref q_t_what, .ref q_t_numbers])), (q_t_high, .inl (cy 0, (40, .inl t_high))), (q_t_px, .inl (cy 0, (200, .inl t_px))), (q_t_py, .inl (cy 0, (200, .inl t_py))), (q_t_pz, .inl (cy 0, (200, .inl t_pz))), (q_t_strip, .inl (cy 0, (200, .inl t_strip))), (q_t_shifts, .inl (cy 0, (8, .inl t_shifts))), (q_t_near, .inl (cy 1, (40, .inl c_near_9))), (q_t_kind, .inl (cy 0, (200, .inl t_kind)))]) [1, 7, 2, 3, 4, 5, 6, 8, 0] rfl rfl
                    refine lv_istore (lv' := [(12, .int r_8), (0, .ref q_t), (1, .int v1), (2, .int v2), (3, .int v3), (4, .int v4), (5, .int v5), (6, .int v6), (7, .int v7), (8, .int v8), (9, .int v9), (10, .int v10), (11, .int v11)]) hx hb dX9_findRoof_81 hl (by decide) rfl (fun ls hl => ?_)
                    refine lv_iload hx hb dX9_findRoof_83 (lv_at hl 0 rfl) ?_
                    refine lv_iload hx hb dX9_findRoof_85 (lv_at hl 6 rfl) ?_
                    refine lv_icmp_le (tgt := 121) hx hb dX9_findRoof_87 (by decide) (fun c_ => ?_) (fun c_ => ?_)
                    · have h := h.1 c_
                      exact j121 c_near_9 v5 v6 v7 v8 v11 _ _ hP hD hS _ (lv_sub hl [1, 2, 3, 4, 5, 6, 7, 8, 9, 10, 11, 12] rfl) h
                    · have h := h.2 c_
                      refine lv_iload hx hb dX9_findRoof_90 (lv_at hl 0 rfl) ?_
                      refine lv_istore (lv' := [(5, .int r_8), (12, .int r_8), (0, .ref q_t), (1, .int v1), (2, .int v2), (3, .int v3), (4, .int v4), (6, .int v6), (7, .int v7), (8, .int v8), (9, .int v9), (10, .int v10), (11, .int v11)]) hx hb dX9_findRoof_92 hl (by decide) rfl (fun ls hl => ?_)
                      refine lv_aload_n hx hb dX9_findRoof_94 rfl (lv_at hl 2 rfl) ?_
                      refine va_get (D := D) (ci := 9) (C := RX9) (T := TX9) (N := 30) hx hb hts hi_X9 hown hK hP 0 rfl rfl 17 (by decide) (hts (.fieldLink RX9 63 "RayGroundModel" "high" "[I") (List.mem_of_getElem? (i := 2) rfl)) (fun _ h9 => h9) rfl dX9_findRoof_95 ?_
                      refine lv_iload hx hb dX9_findRoof_98 (lv_at hl 10 rfl) ?_
                      refine py_iald hx hb hK hP 1 0 rfl rfl (k := v9.toNatClampNeg) rfl h.1 dX9_findRoof_100 ?_
                      have h := h.2
                      refine lv_topi (fun v6_10 ev6_10 => ?_)
                      have h := h v6_10 ev6_10
                      refine lv_istore (lv' := [(6, .int v6_10), (5, .int r_8), (12, .int r_8), (0, .ref q_t), (1, .int v1), (2, .int v2), (3, .int v3), (4, .int v4), (7, .int v7), (8, .int v8), (9, .int v9), (10, .int v10), (11, .int v11)]) hx hb dX9_findRoof_101 hl (by decide) rfl (fun ls hl => ?_)
                      refine lv_aload_n hx hb dX9_findRoof_103 rfl (lv_at hl 3 rfl) ?_
                      refine va_get (D := D) (ci := 9) (C := RX9) (T := TX9) (N := 30) hx hb hts hi_X9 hown hK hP 0 rfl rfl 17 (by decide) (hts (.fieldLink RX9 63 "RayGroundModel" "high" "[I") (List.mem_of_getElem? (i := 2) rfl)) (fun _ h9 => h9) rfl dX9_findRoof_104 ?_
                      refine lv_iload hx hb dX9_findRoof_107 (lv_at hl 11 rfl) ?_
                      refine py_iald hx hb hK hP 1 0 rfl rfl (k := v10.toNatClampNeg) rfl h.1 dX9_findRoof_109 ?_
                      have h := h.2
                      refine lv_topi (fun v7_11 ev7_11 => ?_)
                      have h := h v7_11 ev7_11
                      refine lv_istore (lv' := [(7, .int v7_11), (6, .int v6_10), (5, .int r_8), (12, .int r_8), (0, .ref q_t), (1, .int v1), (2, .int v2), (3, .int v3), (4, .int v4), (8, .int v8), (9, .int v9), (10, .int v10), (11, .int v11)]) hx hb dX9_findRoof_110 hl (by decide) rfl (fun ls hl => ?_)
                      refine lv_aload_n hx hb dX9_findRoof_112 rfl (lv_at hl 4 rfl) ?_
                      refine va_get (D := D) (ci := 9) (C := RX9) (T := TX9) (N := 30) hx hb hts hi_X9 hown hK hP 0 rfl rfl 17 (by decide) (hts (.fieldLink RX9 63 "RayGroundModel" "high" "[I") (List.mem_of_getElem? (i := 2) rfl)) (fun _ h9 => h9) rfl dX9_findRoof_113 ?_
                      refine lv_iload hx hb dX9_findRoof_116 (lv_at hl 12 rfl) ?_
                      refine py_iald hx hb hK hP 1 0 rfl rfl (k := v11.toNatClampNeg) rfl h.1 dX9_findRoof_118 ?_
                      have h := h.2
                      refine lv_topi (fun v8_12 ev8_12 => ?_)
                      have h := h v8_12 ev8_12
                      refine lv_istore (lv' := [(8, .int v8_12), (7, .int v7_11), (6, .int v6_10), (5, .int r_8), (12, .int r_8), (0, .ref q_t), (1, .int v1), (2, .int v2), (3, .int v3), (4, .int v4), (9, .int v9), (10, .int v10), (11, .int v11)]) hx hb dX9_findRoof_119 hl (by decide) rfl (fun ls hl => ?_)
                      exact j121 c_near_9 r_8 v6_10 v7_11 v8_12 v11 _ _ hP hD hS _ (lv_sub hl [5, 6, 7, 8, 9, 3, 2, 1, 0, 10, 11, 12] rfl) h
              refine lv_iload hx hb dX9_findRoof_39 (lv_at hl 10 rfl) ?_
              refine lv_iconst (v := (1 : Int32)) hx hb dX9_findRoof_41 (by decide) ?_
              refine lv_iadd hx hb dX9_findRoof_42 ?_
              refine lv_topi (fun v11_13 ev11_13 => ?_)
              have h := h v11_13 ev11_13
              refine lv_istore (lv' := [(11, .int v11_13), (0, .ref q_t), (1, .int v1), (2, .int v2), (3, .int v3), (4, .int v4), (5, .int v5), (6, .int v6), (7, .int v7), (8, .int v8), (9, .int v9), (10, .int v10)]) hx hb dX9_findRoof_43 hl (by decide) rfl (fun ls hl => ?_)
              obtain ⟨n, h⟩ := h
              exact lp45 v10 n t_near v5 v6 v7 v8 v11_13 _ _ hP hD hS _ (lv_sub hl [1, 2, 3, 4, 5, 6, 7, 8, 9, 10, 11, 0] rfl) h
        refine lv_iload hx hb dX9_findRoof_24 (lv_at hl 9 rfl) ?_
        refine lv_iconst (v := (1 : Int32)) hx hb dX9_findRoof_26 (by decide) ?_
        refine lv_iadd hx hb dX9_findRoof_27 ?_
        refine lv_topi (fun v10_14 ev10_14 => ?_)
        have h := h v10_14 ev10_14
        refine lv_istore (lv' := [(10, .int v10_14), (0, .ref q_t), (1, .int v1), (2, .int v2), (3, .int v3), (4, .int v4), (5, .int v5), (6, .int v6), (7, .int v7), (8, .int v8), (9, .int v9)]) hx hb dX9_findRoof_28 hl (by decide) rfl (fun ls hl => ?_)
        obtain ⟨n, h⟩ := h
        exact lp30 v9 n t_near v5 v6 v7 v8 v10_14 _ _ hP hD hS _ (lv_sub hl [1, 2, 3, 4, 5, 6, 7, 8, 9, 10, 0] rfl) h
  refine lv_iconst (v := (0 : Int32)) hx hb dX9_findRoof_0 (by decide) ?_
  refine lv_istore (lv' := [(5, .int (0 : Int32)), (0, .ref q_t), (1, .int a1), (2, .int a2), (3, .int a3), (4, .int a4)]) hx hb dX9_findRoof_1 hl (by decide) rfl (fun ls hl => ?_)
  refine lv_iconst (v := (0 : Int32)) hx hb dX9_findRoof_3 (by decide) ?_
  refine lv_istore (lv' := [(6, .int (0 : Int32)), (5, .int (0 : Int32)), (0, .ref q_t), (1, .int a1), (2, .int a2), (3, .int a3), (4, .int a4)]) hx hb dX9_findRoof_4 hl (by decide) rfl (fun ls hl => ?_)
  refine lv_iconst (v := (0 : Int32)) hx hb dX9_findRoof_6 (by decide) ?_
  refine lv_istore (lv' := [(7, .int (0 : Int32)), (6, .int (0 : Int32)), (5, .int (0 : Int32)), (0, .ref q_t), (1, .int a1), (2, .int a2), (3, .int a3), (4, .int a4)]) hx hb dX9_findRoof_7 hl (by decide) rfl (fun ls hl => ?_)
  refine lv_iconst (v := (0 : Int32)) hx hb dX9_findRoof_9 (by decide) ?_
  refine lv_istore (lv' := [(8, .int (0 : Int32)), (7, .int (0 : Int32)), (6, .int (0 : Int32)), (5, .int (0 : Int32)), (0, .ref q_t), (1, .int a1), (2, .int a2), (3, .int a3), (4, .int a4)]) hx hb dX9_findRoof_10 hl (by decide) rfl (fun ls hl => ?_)
  refine lv_iconst (v := (0 : Int32)) hx hb dX9_findRoof_12 (by decide) ?_
  refine lv_istore (lv' := [(9, .int (0 : Int32)), (8, .int (0 : Int32)), (7, .int (0 : Int32)), (6, .int (0 : Int32)), (5, .int (0 : Int32)), (0, .ref q_t), (1, .int a1), (2, .int a2), (3, .int a3), (4, .int a4)]) hx hb dX9_findRoof_13 hl (by decide) rfl (fun ls hl => ?_)
  obtain ⟨n, h⟩ := h
  exact lp15 t_highs t_high t_kind a1 a2 a3 a4 n t_near (0 : Int32) (0 : Int32) (0 : Int32) (0 : Int32) (0 : Int32) _ _ hP hD hS _ (lv_sub hl [5, 6, 7, 8, 9, 4, 3, 2, 1, 0] rfl) h
set_option maxHeartbeats 4000000 in
set_option maxRecDepth 100000 in
theorem c_X9_isRoofing (l : Launch) (D : va_G) (cy : Nat → ClassId) (a0 : Int32) (a1 : Int32) (Q : Int32 → Prop) (h : wp_X9_isRoofing a0 a1 Q) : Met l yX9_isRoofing wsX9_isRoofing ({ frames := 1, cells := 0, slots := 0, locals := 25 } : Room) (py_Pp ([.int a0, .int a1] : List Value) D cy []) (vp_Si Q) 0 0 (fun _ => False) := by
  refine Met.ofW (cc := cX9_isRoofing) (maxL := 2) (ret := (some .boolean)) (by decide) rfl ?_
  intro p e s m args below meth c s₁ B hml hv
  obtain ⟨rfl, hP, hKK⟩ := hv
  have hK := hKK.1
  have hN := hKK.2
  have hx := B.exec
  have hb := B.bytes
  have hr := B.returns
  have hts := atoms_spec (ws := wsX9_isRoofing) B.pre
  have hown : s.vm.findClass RX9 = some m.cls := findClass_of_methodNamed B.named
  have hlocks := B.notSynchronized
  have hl := lv_entry ([.int a0, .int a1] : List Value) (n := 2) (Nat.le_of_ble_eq_true rfl)
  rw [lg_entry_eq]
  generalize (lg_sl ([.int a0, .int a1] : List Value) ++ List.replicate (2 - (lg_sl ([.int a0, .int a1] : List Value)).length) Slot.unset).toArray = ls at hl ⊢
  have hl : lv_has ls 2 [(0, .int a0), (1, .int a1)] := hl
  unfold wp_X9_isRoofing at h
  have j30 : ∀ (ls : Array Slot), lv_has ls 2 [] → wp_X9_isRoofing_b30 Q → W p l e (headSpec wsX9_isRoofing ({ frames := 1, cells := 0, slots := 0, locals := 25 } : Room)).room s m (([.int a0, .int a1] : List Value)).toArray below meth c s.heap [] 0 0 (MQ below (vp_Si Q) (([.int a0, .int a1] : List Value)).toArray s 0 0 (fun _ => False)) (F0 m 30 ls []) := by
    intro ls hl h
    unfold wp_X9_isRoofing_b30 at h
    refine lv_iconst (v := (0 : Int32)) hx hb dX9_isRoofing_30 (by decide) ?_
    exact W.zret (v := (0 : Int32)) hx hb hr rfl (fun t ht hW => ⟨(0 : Int32), rfl, h, ht⟩) (fun _ hq => by cases hq) dX9_isRoofing_31
  refine lv_iload_n hx hb dX9_isRoofing_0 rfl (lv_at hl 0 rfl) ?_
  refine lv_i2l (v := (a0.toInt64)) hx hb dX9_isRoofing_1 rfl ?_
  refine lv_lconst (v := (0 : Int64)) hx hb dX9_isRoofing_2 (by decide) ?_
  refine lv_ldc2 (v := (50 : Int64)) hx hb hown (hts (.constantLong RX9 193 (50)) (List.mem_of_getElem? (i := 1) rfl)) dX9_isRoofing_3 ?_
  refine py_ci (py_rSp (As := [.long (a0.toInt64), .long (0 : Int64), .long (50 : Int64)]) ⟨hx, hb, hml, hown, hts⟩ hKK hP [] rfl (c_X9_in l D cy (a0.toInt64) (0 : Int64) (50 : Int64) _ h) (va_cwS 3 hts gX9_isRoofing_X9_in rfl rfl rfl cd_X9_in ⟨Nat.le_of_ble_eq_true rfl, Nat.le_of_ble_eq_true rfl⟩) rfl hl.1 rfl (Nat.le_of_ble_eq_true rfl) ⟨Nat.zero_le _, Nat.zero_le _⟩ dX9_isRoofing_6) (fun r_1 h => ?_)
  refine lv_if_eq (tgt := 30) hx hb dX9_isRoofing_9 (by decide) (fun c_ => ?_) (fun c_ => ?_)
  · have h := h.1 c_
    exact j30 _ (lv_sub hl [] rfl) h
  · have h := h.2 c_
    refine lv_iload_n hx hb dX9_isRoofing_12 rfl (lv_at hl 1 rfl) ?_
    refine lv_i2l (v := (a1.toInt64)) hx hb dX9_isRoofing_13 rfl ?_
    refine lv_ldc2 (v := (3 : Int64)) hx hb hown (hts (.constantLong RX9 87 (3)) (List.mem_of_getElem? (i := 2) rfl)) dX9_isRoofing_14 ?_
    refine lv_ldc2 (v := (40 : Int64)) hx hb hown (hts (.constantLong RX9 195 (40)) (List.mem_of_getElem? (i := 3) rfl)) dX9_isRoofing_17 ?_
    refine py_ci (py_rSp (As := [.long (a1.toInt64), .long (3 : Int64), .long (40 : Int64)]) ⟨hx, hb, hml, hown, hts⟩ hKK hP [] rfl (c_X9_in l D cy (a1.toInt64) (3 : Int64) (40 : Int64) _ h) (va_cwS 3 hts gX9_isRoofing_X9_in rfl rfl rfl cd_X9_in ⟨Nat.le_of_ble_eq_true rfl, Nat.le_of_ble_eq_true rfl⟩) rfl hl.1 rfl (Nat.le_of_ble_eq_true rfl) ⟨Nat.zero_le _, Nat.zero_le _⟩ dX9_isRoofing_20) (fun r_2 h => ?_)
    refine lv_if_eq (tgt := 30) hx hb dX9_isRoofing_23 (by decide) (fun c_ => ?_) (fun c_ => ?_)
    · have h := h.1 c_
      exact j30 _ (lv_sub hl [] rfl) h
    · have h := h.2 c_
      refine lv_iconst (v := (1 : Int32)) hx hb dX9_isRoofing_26 (by decide) ?_
      refine lv_goto (tgt := 31) hx hb dX9_isRoofing_27 (by decide) ?_
      exact W.zret (v := (1 : Int32)) hx hb hr rfl (fun t ht hW => ⟨(1 : Int32), rfl, h, ht⟩) (fun _ hq => by cases hq) dX9_isRoofing_31
set_option maxHeartbeats 4000000 in
set_option maxRecDepth 100000 in
theorem c_X9_roofs (l : Launch) (D : va_G) (cy : Nat → ClassId) (q_t_lanes q_t_sizes q_t_items q_t_spare q_t_many q_t_px q_t_py q_t_pz q_t_strip q_t_kind q_t_byHand q_t_round q_t_lost q_t_shifts q_t_matrix q_t_right q_t_found q_t_high q_t_near q_t_cells q_t_part q_t_before q_t_tape q_t_what q_t_numbers q_t : Nat) (t_highs : Int32) (t_taped : Int32) (t_at : Int32) (t_fault : Int32) (t_steps : Int32) (t_many : Nat → Int32) (t_kind : Nat → Int32) (t_byHand : Nat → Int32) (t_high : Nat → Int32) (t_px : Nat → Int32) (t_py : Nat → Int32) (t_pz : Nat → Int32) (t_strip : Nat → Int32) (t_shifts : Nat → Int32) (t_near : Nat → Int32) (a1 : Int32) (a2 : Int32) (a3 : Int32) (sz : Nat) (Q : Int32 → Int32 → (Nat → Int32) → (Nat → Int32) → (Nat → Int32) → Prop) (h : wp_X9_roofs t_highs t_many t_kind t_byHand t_high t_px t_py t_pz t_strip t_shifts t_near a1 a2 a3 Q) : Met l yX9_roofs wsX9_roofs ({ frames := 3, cells := 0, slots := 0, locals := 107 } : Room) (py_Pw ([.ref q_t, .int a1, .int a2, .int a3] : List Value) D cy [(q_t, .inr (9, [.ref q_t_lanes, .ref q_t_sizes, .ref q_t_items, .ref q_t_spare, .ref q_t_many, .ref q_t_px, .ref q_t_py, .ref q_t_pz, .ref q_t_strip, .ref q_t_kind, .ref q_t_byHand, .ref q_t_round, .ref q_t_lost, .ref q_t_shifts, .ref q_t_matrix, .ref q_t_right, .ref q_t_found, .ref q_t_high, .int t_highs, .ref q_t_near, .ref q_t_cells, .ref q_t_part, .ref q_t_before, .ref q_t_tape, .int t_taped, .int t_at, .int t_fault, .int t_steps, .ref q_t_what, .ref q_t_numbers])), (q_t_many, .inl (cy 0, (2, .inl t_many))), (q_t_kind, .inl (cy 0, (200, .inl t_kind))), (q_t_byHand, .inl (cy 0, (200, .inl t_byHand))), (q_t_high, .inl (cy 0, (40, .inl t_high))), (q_t_px, .inl (cy 0, (200, .inl t_px))), (q_t_py, .inl (cy 0, (200, .inl t_py))), (q_t_pz, .inl (cy 0, (200, .inl t_pz))), (q_t_strip, .inl (cy 0, (200, .inl t_strip))), (q_t_shifts, .inl (cy 0, (8, .inl t_shifts))), (q_t_near, .inl (cy 1, (40, .inl t_near)))] sz) (va_Qi (fun (r : Int32) (u : Int32 × (Nat → Int32) × (Nat → Int32) × (Nat → Int32)) => Q r u.1 u.2.1 u.2.2.1 u.2.2.2) (py_B D (fun (u : Int32 × (Nat → Int32) × (Nat → Int32) × (Nat → Int32)) => [(q_t, .inr (9, [.ref q_t_lanes, .ref q_t_sizes, .ref q_t_items, .ref q_t_spare, .ref q_t_many, .ref q_t_px, .ref q_t_py, .ref q_t_pz, .ref q_t_strip, .ref q_t_kind, .ref q_t_byHand, .ref q_t_round, .ref q_t_lost, .ref q_t_shifts, .ref q_t_matrix, .ref q_t_right, .ref q_t_found, .ref q_t_high, .int u.1, .ref q_t_near, .ref q_t_cells, .ref q_t_part, .ref q_t_before, .ref q_t_tape, .int t_taped, .int t_at, .int t_fault, .int t_steps, .ref q_t_what, .ref q_t_numbers])), (q_t_many, .inl (cy 0, (2, .inl t_many))), (q_t_kind, .inl (cy 0, (200, .inl u.2.1))), (q_t_byHand, .inl (cy 0, (200, .inl t_byHand))), (q_t_high, .inl (cy 0, (40, .inl u.2.2.1))), (q_t_px, .inl (cy 0, (200, .inl t_px))), (q_t_py, .inl (cy 0, (200, .inl t_py))), (q_t_pz, .inl (cy 0, (200, .inl t_pz))), (q_t_strip, .inl (cy 0, (200, .inl t_strip))), (q_t_shifts, .inl (cy 0, (8, .inl t_shifts))), (q_t_near, .inl (cy 1, (40, .inl u.2.2.2)))]) (va_A [(q_t, .inr (9, [.ref q_t_lanes, .ref q_t_sizes, .ref q_t_items, .ref q_t_spare, .ref q_t_many, .ref q_t_px, .ref q_t_py, .ref q_t_pz, .ref q_t_strip, .ref q_t_kind, .ref q_t_byHand, .ref q_t_round, .ref q_t_lost, .ref q_t_shifts, .ref q_t_matrix, .ref q_t_right, .ref q_t_found, .ref q_t_high, .int t_highs, .ref q_t_near, .ref q_t_cells, .ref q_t_part, .ref q_t_before, .ref q_t_tape, .int t_taped, .int t_at, .int t_fault, .int t_steps, .ref q_t_what, .ref q_t_numbers])), (q_t_many, .inl (cy 0, (2, .inl t_many))), (q_t_kind, .inl (cy 0, (200, .inl t_kind))), (q_t_byHand, .inl (cy 0, (200, .inl t_byHand))), (q_t_high, .inl (cy 0, (40, .inl t_high))), (q_t_px, .inl (cy 0, (200, .inl t_px))), (q_t_py, .inl (cy 0, (200, .inl t_py))), (q_t_pz, .inl (cy 0, (200, .inl t_pz))), (q_t_strip, .inl (cy 0, (200, .inl t_strip))), (q_t_shifts, .inl (cy 0, (8, .inl t_shifts))), (q_t_near, .inl (cy 1, (40, .inl t_near)))] sz)) (va_A [(q_t, .inr (9, [.ref q_t_lanes, .ref q_t_sizes, .ref q_t_items, .ref q_t_spare, .ref q_t_many, .ref q_t_px, .ref q_t_py, .ref q_t_pz, .ref q_t_strip, .ref q_t_kind, .ref q_t_byHand, .ref q_t_round, .ref q_t_lost, .ref q_t_shifts, .ref q_t_matrix, .ref q_t_right, .ref q_t_found, .ref q_t_high, .int t_highs, .ref q_t_near, .ref q_t_cells, .ref q_t_part, .ref q_t_before, .ref q_t_tape, .int t_taped, .int t_at, .int t_fault, .int t_steps, .ref q_t_what, .ref q_t_numbers])), (q_t_many, .inl (cy 0, (2, .inl t_many))), (q_t_kind, .inl (cy 0, (200, .inl t_kind))), (q_t_byHand, .inl (cy 0, (200, .inl t_byHand))), (q_t_high, .inl (cy 0, (40, .inl t_high))), (q_t_px, .inl (cy 0, (200, .inl t_px))), (q_t_py, .inl (cy 0, (200, .inl t_py))), (q_t_pz, .inl (cy 0, (200, .inl t_pz))), (q_t_strip, .inl (cy 0, (200, .inl t_strip))), (q_t_shifts, .inl (cy 0, (8, .inl t_shifts))), (q_t_near, .inl (cy 1, (40, .inl t_near)))] sz)) 0 0 (va_A [(q_t, .inr (9, [.ref q_t_lanes, .ref q_t_sizes, .ref q_t_items, .ref q_t_spare, .ref q_t_many, .ref q_t_px, .ref q_t_py, .ref q_t_pz, .ref q_t_strip, .ref q_t_kind, .ref q_t_byHand, .ref q_t_round, .ref q_t_lost, .ref q_t_shifts, .ref q_t_matrix, .ref q_t_right, .ref q_t_found, .ref q_t_high, .int t_highs, .ref q_t_near, .ref q_t_cells, .ref q_t_part, .ref q_t_before, .ref q_t_tape, .int t_taped, .int t_at, .int t_fault, .int t_steps, .ref q_t_what, .ref q_t_numbers])), (q_t_many, .inl (cy 0, (2, .inl t_many))), (q_t_kind, .inl (cy 0, (200, .inl t_kind))), (q_t_byHand, .inl (cy 0, (200, .inl t_byHand))), (q_t_high, .inl (cy 0, (40, .inl t_high))), (q_t_px, .inl (cy 0, (200, .inl t_px))), (q_t_py, .inl (cy 0, (200, .inl t_py))), (q_t_pz, .inl (cy 0, (200, .inl t_pz))), (q_t_strip, .inl (cy 0, (200, .inl t_strip))), (q_t_shifts, .inl (cy 0, (8, .inl t_shifts))), (q_t_near, .inl (cy 1, (40, .inl t_near)))] sz) := by
  refine Met.ofW (cc := cX9_roofs) (maxL := 6) (ret := (some .int)) (by decide) rfl ?_
  intro p e s m args below meth c s₁ B hml hv
  obtain ⟨rfl, hsz, hP, hKK, hD0⟩ := hv
  have hK := hKK.1
  have hN := hKK.2
  have hx := B.exec
  have hb := B.bytes
  have hr := B.returns
  have hts := atoms_spec (ws := wsX9_roofs) B.pre
  have hown : s.vm.findClass RX9 = some m.cls := findClass_of_methodNamed B.named
  have hlocks := B.notSynchronized
  have hi_X9 : ∀ w ∈ wsX90, w ∈ wsX9_roofs := fun w h => List.mem_cons_of_mem _ (List.mem_append_right _ (h))
  subst hsz
  have hD := hD0.self (sz := s.heap.size)
  generalize hAe : va_A [(q_t, .inr (9, [.ref q_t_lanes, .ref q_t_sizes, .ref q_t_items, .ref q_t_spare, .ref q_t_many, .ref q_t_px, .ref q_t_py, .ref q_t_pz, .ref q_t_strip, .ref q_t_kind, .ref q_t_byHand, .ref q_t_round, .ref q_t_lost, .ref q_t_shifts, .ref q_t_matrix, .ref q_t_right, .ref q_t_found, .ref q_t_high, .int t_highs, .ref q_t_near, .ref q_t_cells, .ref q_t_part, .ref q_t_before, .ref q_t_tape, .int t_taped, .int t_at, .int t_fault, .int t_steps, .ref q_t_what, .ref q_t_numbers])), (q_t_many, .inl (cy 0, (2, .inl t_many))), (q_t_kind, .inl (cy 0, (200, .inl t_kind))), (q_t_byHand, .inl (cy 0, (200, .inl t_byHand))), (q_t_high, .inl (cy 0, (40, .inl t_high))), (q_t_px, .inl (cy 0, (200, .inl t_px))), (q_t_py, .inl (cy 0, (200, .inl t_py))), (q_t_pz, .inl (cy 0, (200, .inl t_pz))), (q_t_strip, .inl (cy 0, (200, .inl t_strip))), (q_t_shifts, .inl (cy 0, (8, .inl t_shifts))), (q_t_near, .inl (cy 1, (40, .inl t_near)))] s.heap.size = A at hD ⊢
  have hA : ∀ q : Nat, s.heap.size ≤ q → A q := fun q h => by rw [← hAe]; exact Or.inr h
  have hS : va_S A s.heap s.heap [] := va_S.rf
  have hl := lv_entry ([.ref q_t, .int a1, .int a2, .int a3] : List Value) (n := 6) (Nat.le_of_ble_eq_true rfl)
  rw [lg_entry_eq]
  generalize (lg_sl ([.ref q_t, .int a1, .int a2, .int a3] : List Value) ++ List.replicate (6 - (lg_sl ([.ref q_t, .int a1, .int a2, .int a3] : List Value)).length) Slot.unset).toArray = ls at hl ⊢
  have hl : lv_has ls 6 [(0, .ref q_t), (1, .int a1), (2, .int a2), (3, .int a3)] := hl
  unfold wp_X9_roofs at h
  refine lv_iload_n hx hb dX9_roofs_0 rfl (lv_at hl 1 rfl) ?_
  refine py_ci (py_rSp (As := [.int a1]) ⟨hx, hb, hml, hown, hts⟩ hKK hP [] rfl (c_X9_isYear l D cy a1 _ h) (va_cwS 1 hts gX9_roofs_X9_isYear rfl rfl rfl cd_X9_isYear ⟨Nat.le_of_ble_eq_true rfl, Nat.le_of_ble_eq_true rfl⟩) rfl hl.1 rfl (Nat.le_of_ble_eq_true rfl) ⟨Nat.zero_le _, Nat.zero_le _⟩ dX9_roofs_1) (fun r_1 h => ?_)
  refine lv_if_eq (tgt := 15) hx hb dX9_roofs_4 (by decide) (fun c_ => ?_) (fun c_ => ?_)
  · have h := h.1 c_
    refine lv_iconst (v := (-1 : Int32)) hx hb dX9_roofs_15 (by decide) ?_
    exact W.iret (v := (-1 : Int32)) hx hb hr (fun t ht hW => ⟨⟨(-1 : Int32), (t_highs, t_kind, t_high, t_near), rfl, h, by rw [ht]; exact hP, hD⟩, hS.F ht⟩) hS.2.2 dX9_roofs_16
  · have h := h.2 c_
    refine lv_iload_n hx hb dX9_roofs_7 rfl (lv_at hl 2 rfl) ?_
    refine lv_iload_n hx hb dX9_roofs_8 rfl (lv_at hl 3 rfl) ?_
    refine py_ci (py_rSp (As := [.int a2, .int a3]) ⟨hx, hb, hml, hown, hts⟩ hKK hP [] rfl (c_X9_isRoofing l D cy a2 a3 _ h) (va_cwS 2 hts gX9_roofs_X9_isRoofing rfl rfl rfl cd_X9_isRoofing ⟨Nat.le_of_ble_eq_true rfl, Nat.le_of_ble_eq_true rfl⟩) rfl hl.1 rfl (Nat.le_of_ble_eq_true rfl) ⟨Nat.zero_le _, Nat.zero_le _⟩ dX9_roofs_9) (fun r_2 h => ?_)
    refine lv_if_ne (tgt := 17) hx hb dX9_roofs_12 (by decide) (fun c_ => ?_) (fun c_ => ?_)
    · have h := h.2 c_
      have j73 : ∀ (t_highs : Int32) (t_kind : Nat → Int32) (t_high : Nat → Int32) (t_near : Nat → Int32) (v1 : Int32) (v2 : Int32) (v3 : Int32) (v4 : Int32) (H : Heap) (locs : List Loc), va_P D vwCl [(q_t, .inr (9, [.ref q_t_lanes, .ref q_t_sizes, .ref q_t_items, .ref q_t_spare, .ref q_t_many, .ref q_t_px, .ref q_t_py, .ref q_t_pz, .ref q_t_strip, .ref q_t_kind, .ref q_t_byHand, .ref q_t_round, .ref q_t_lost, .ref q_t_shifts, .ref q_t_matrix, .ref q_t_right, .ref q_t_found, .ref q_t_high, .int t_highs, .ref q_t_near, .ref q_t_cells, .ref q_t_part, .ref q_t_before, .ref q_t_tape, .int t_taped, .int t_at, .int t_fault, .int t_steps, .ref q_t_what, .ref q_t_numbers])), (q_t_many, .inl (cy 0, (2, .inl t_many))), (q_t_kind, .inl (cy 0, (200, .inl t_kind))), (q_t_byHand, .inl (cy 0, (200, .inl t_byHand))), (q_t_high, .inl (cy 0, (40, .inl t_high))), (q_t_px, .inl (cy 0, (200, .inl t_px))), (q_t_py, .inl (cy 0, (200, .inl t_py))), (q_t_pz, .inl (cy 0, (200, .inl t_pz))), (q_t_strip, .inl (cy 0, (200, .inl t_strip))), (q_t_shifts, .inl (cy 0, (8, .inl t_shifts))), (q_t_near, .inl (cy 1, (40, .inl t_near)))] H → va_D A [(q_t, .inr (9, [.ref q_t_lanes, .ref q_t_sizes, .ref q_t_items, .ref q_t_spare, .ref q_t_many, .ref q_t_px, .ref q_t_py, .ref q_t_pz, .ref q_t_strip, .ref q_t_kind, .ref q_t_byHand, .ref q_t_round, .ref q_t_lost, .ref q_t_shifts, .ref q_t_matrix, .ref q_t_right, .ref q_t_found, .ref q_t_high, .int t_highs, .ref q_t_near, .ref q_t_cells, .ref q_t_part, .ref q_t_before, .ref q_t_tape, .int t_taped, .int t_at, .int t_fault, .int t_steps, .ref q_t_what, .ref q_t_numbers])), (q_t_many, .inl (cy 0, (2, .inl t_many))), (q_t_kind, .inl (cy 0, (200, .inl t_kind))), (q_t_byHand, .inl (cy 0, (200, .inl t_byHand))), (q_t_high, .inl (cy 0, (40, .inl t_high))), (q_t_px, .inl (cy 0, (200, .inl t_px))), (q_t_py, .inl (cy 0, (200, .inl t_py))), (q_t_pz, .inl (cy 0, (200, .inl t_pz))), (q_t_strip, .inl (cy 0, (200, .inl t_strip))), (q_t_shifts, .inl (cy 0, (8, .inl t_shifts))), (q_t_near, .inl (cy 1, (40, .inl t_near)))] → va_S A s.heap H locs → ∀ (ls : Array Slot), lv_has ls 6 [(0, .ref q_t), (1, .int v1), (2, .int v2), (3, .int v3), (4, .int v4)] → wp_X9_roofs_b73 Q t_many t_byHand t_px t_py t_pz t_strip t_shifts t_highs t_kind t_high t_near v1 v2 v3 v4 → W p l e (headSpec wsX9_roofs ({ frames := 3, cells := 0, slots := 0, locals := 107 } : Room)).room s m (([.ref q_t, .int a1, .int a2, .int a3] : List Value)).toArray below meth c H locs 0 0 (MQ below (va_Qi (fun (r : Int32) (u : Int32 × (Nat → Int32) × (Nat → Int32) × (Nat → Int32)) => Q r u.1 u.2.1 u.2.2.1 u.2.2.2) (py_B D (fun (u : Int32 × (Nat → Int32) × (Nat → Int32) × (Nat → Int32)) => [(q_t, .inr (9, [.ref q_t_lanes, .ref q_t_sizes, .ref q_t_items, .ref q_t_spare, .ref q_t_many, .ref q_t_px, .ref q_t_py, .ref q_t_pz, .ref q_t_strip, .ref q_t_kind, .ref q_t_byHand, .ref q_t_round, .ref q_t_lost, .ref q_t_shifts, .ref q_t_matrix, .ref q_t_right, .ref q_t_found, .ref q_t_high, .int u.1, .ref q_t_near, .ref q_t_cells, .ref q_t_part, .ref q_t_before, .ref q_t_tape, .int t_taped, .int t_at, .int t_fault, .int t_steps, .ref q_t_what, .ref q_t_numbers])), (q_t_many, .inl (cy 0, (2, .inl t_many))), (q_t_kind, .inl (cy 0, (200, .inl u.2.1))), (q_t_byHand, .inl (cy 0, (200, .inl t_byHand))), (q_t_high, .inl (cy 0, (40, .inl u.2.2.1))), (q_t_px, .inl (cy 0, (200, .inl t_px))), (q_t_py, .inl (cy 0, (200, .inl t_py))), (q_t_pz, .inl (cy 0, (200, .inl t_pz))), (q_t_strip, .inl (cy 0, (200, .inl t_strip))), (q_t_shifts, .inl (cy 0, (8, .inl t_shifts))), (q_t_near, .inl (cy 1, (40, .inl u.2.2.2)))]) A) A) (([.ref q_t, .int a1, .int a2, .int a3] : List Value)).toArray s 0 0 A) (F0 m 73 ls []) := by
        intro t_highs t_kind t_high t_near v1 v2 v3 v4 H locs hP hD hS ls hl h
        unfold wp_X9_roofs_b73 at h
        refine lv_iload hx hb dX9_roofs_73 (lv_at hl 4 rfl) ?_
        refine lv_bipush (v := (40 : Int32)) hx hb dX9_roofs_75 (by decide) ?_
        refine lv_icmp_le (tgt := 83) hx hb dX9_roofs_77 (by decide) (fun c_ => ?_) (fun c_ => ?_)
        · have h := h.1 c_
          have j160 : ∀ (t_highs : Int32) (t_kind : Nat → Int32) (t_high : Nat → Int32) (t_near : Nat → Int32) (v1 : Int32) (v2 : Int32) (v3 : Int32) (H : Heap) (locs : List Loc), va_P D vwCl [(q_t, .inr (9, [.ref q_t_lanes, .ref q_t_sizes, .ref q_t_items, .ref q_t_spare, .ref q_t_many, .ref q_t_px, .ref q_t_py, .ref q_t_pz, .ref q_t_strip, .ref q_t_kind, .ref q_t_byHand, .ref q_t_round, .ref q_t_lost, .ref q_t_shifts, .ref q_t_matrix, .ref q_t_right, .ref q_t_found, .ref q_t_high, .int t_highs, .ref q_t_near, .ref q_t_cells, .ref q_t_part, .ref q_t_before, .ref q_t_tape, .int t_taped, .int t_at, .int t_fault, .int t_steps, .ref q_t_what, .ref q_t_numbers])), (q_t_many, .inl (cy 0, (2, .inl t_many))), (q_t_kind, .inl (cy 0, (200, .inl t_kind))), (q_t_byHand, .inl (cy 0, (200, .inl t_byHand))), (q_t_high, .inl (cy 0, (40, .inl t_high))), (q_t_px, .inl (cy 0, (200, .inl t_px))), (q_t_py, .inl (cy 0, (200, .inl t_py))), (q_t_pz, .inl (cy 0, (200, .inl t_pz))), (q_t_strip, .inl (cy 0, (200, .inl t_strip))), (q_t_shifts, .inl (cy 0, (8, .inl t_shifts))), (q_t_near, .inl (cy 1, (40, .inl t_near)))] H → va_D A [(q_t, .inr (9, [.ref q_t_lanes, .ref q_t_sizes, .ref q_t_items, .ref q_t_spare, .ref q_t_many, .ref q_t_px, .ref q_t_py, .ref q_t_pz, .ref q_t_strip, .ref q_t_kind, .ref q_t_byHand, .ref q_t_round, .ref q_t_lost, .ref q_t_shifts, .ref q_t_matrix, .ref q_t_right, .ref q_t_found, .ref q_t_high, .int t_highs, .ref q_t_near, .ref q_t_cells, .ref q_t_part, .ref q_t_before, .ref q_t_tape, .int t_taped, .int t_at, .int t_fault, .int t_steps, .ref q_t_what, .ref q_t_numbers])), (q_t_many, .inl (cy 0, (2, .inl t_many))), (q_t_kind, .inl (cy 0, (200, .inl t_kind))), (q_t_byHand, .inl (cy 0, (200, .inl t_byHand))), (q_t_high, .inl (cy 0, (40, .inl t_high))), (q_t_px, .inl (cy 0, (200, .inl t_px))), (q_t_py, .inl (cy 0, (200, .inl t_py))), (q_t_pz, .inl (cy 0, (200, .inl t_pz))), (q_t_strip, .inl (cy 0, (200, .inl t_strip))), (q_t_shifts, .inl (cy 0, (8, .inl t_shifts))), (q_t_near, .inl (cy 1, (40, .inl t_near)))] → va_S A s.heap H locs → ∀ (ls : Array Slot), lv_has ls 6 [(0, .ref q_t), (1, .int v1), (2, .int v2), (3, .int v3)] → wp_X9_roofs_b160 Q t_px t_py t_pz t_strip t_shifts t_highs t_kind t_high t_near v1 v2 v3 → W p l e (headSpec wsX9_roofs ({ frames := 3, cells := 0, slots := 0, locals := 107 } : Room)).room s m (([.ref q_t, .int a1, .int a2, .int a3] : List Value)).toArray below meth c H locs 0 0 (MQ below (va_Qi (fun (r : Int32) (u : Int32 × (Nat → Int32) × (Nat → Int32) × (Nat → Int32)) => Q r u.1 u.2.1 u.2.2.1 u.2.2.2) (py_B D (fun (u : Int32 × (Nat → Int32) × (Nat → Int32) × (Nat → Int32)) => [(q_t, .inr (9, [.ref q_t_lanes, .ref q_t_sizes, .ref q_t_items, .ref q_t_spare, .ref q_t_many, .ref q_t_px, .ref q_t_py, .ref q_t_pz, .ref q_t_strip, .ref q_t_kind, .ref q_t_byHand, .ref q_t_round, .ref q_t_lost, .ref q_t_shifts, .ref q_t_matrix, .ref q_t_right, .ref q_t_found, .ref q_t_high, .int u.1, .ref q_t_near, .ref q_t_cells, .ref q_t_part, .ref q_t_before, .ref q_t_tape, .int t_taped, .int t_at, .int t_fault, .int t_steps, .ref q_t_what, .ref q_t_numbers])), (q_t_many, .inl (cy 0, (2, .inl t_many))), (q_t_kind, .inl (cy 0, (200, .inl u.2.1))), (q_t_byHand, .inl (cy 0, (200, .inl t_byHand))), (q_t_high, .inl (cy 0, (40, .inl u.2.2.1))), (q_t_px, .inl (cy 0, (200, .inl t_px))), (q_t_py, .inl (cy 0, (200, .inl t_py))), (q_t_pz, .inl (cy 0, (200, .inl t_pz))), (q_t_strip, .inl (cy 0, (200, .inl t_strip))), (q_t_shifts, .inl (cy 0, (8, .inl t_shifts))), (q_t_near, .inl (cy 1, (40, .inl u.2.2.2)))]) A) A) (([.ref q_t, .int a1, .int a2, .int a3] : List Value)).toArray s 0 0 A) (F0 m 160 ls []) := by
            intro t_highs t_kind t_high t_near v1 v2 v3 H locs hP hD hS ls hl h
            unfold wp_X9_roofs_b160 at h
            have lp163 : ∀ (v1 : Int32) (v2 : Int32) (v3 : Int32) (n163 : Nat) (t_highs : Int32) (t_kind : Nat → Int32) (t_high : Nat → Int32) (t_near : Nat → Int32) (v5 : Int32) (H : Heap) (locs : List Loc), va_P D vwCl [(q_t, .inr (9, [.ref q_t_lanes, .ref q_t_sizes, .ref q_t_items, .ref q_t_spare, .ref q_t_many, .ref q_t_px, .ref q_t_py, .ref q_t_pz, .ref q_t_strip, .ref q_t_kind, .ref q_t_byHand, .ref q_t_round, .ref q_t_lost, .ref q_t_shifts, .ref q_t_matrix, .ref q_t_right, .ref q_t_found, .ref q_t_high, .int t_highs, .ref q_t_near, .ref q_t_cells, .ref q_t_part, .ref q_t_before, .ref q_t_tape, .int t_taped, .int t_at, .int t_fault, .int t_steps, .ref q_t_what, .ref q_t_numbers])), (q_t_many, .inl (cy 0, (2, .inl t_many))), (q_t_kind, .inl (cy 0, (200, .inl t_kind))), (q_t_byHand, .inl (cy 0, (200, .inl t_byHand))), (q_t_high, .inl (cy 0, (40, .inl t_high))), (q_t_px, .inl (cy 0, (200, .inl t_px))), (q_t_py, .inl (cy 0, (200, .inl t_py))), (q_t_pz, .inl (cy 0, (200, .inl t_pz))), (q_t_strip, .inl (cy 0, (200, .inl t_strip))), (q_t_shifts, .inl (cy 0, (8, .inl t_shifts))), (q_t_near, .inl (cy 1, (40, .inl t_near)))] H → va_D A [(q_t, .inr (9, [.ref q_t_lanes, .ref q_t_sizes, .ref q_t_items, .ref q_t_spare, .ref q_t_many, .ref q_t_px, .ref q_t_py, .ref q_t_pz, .ref q_t_strip, .ref q_t_kind, .ref q_t_byHand, .ref q_t_round, .ref q_t_lost, .ref q_t_shifts, .ref q_t_matrix, .ref q_t_right, .ref q_t_found, .ref q_t_high, .int t_highs, .ref q_t_near, .ref q_t_cells, .ref q_t_part, .ref q_t_before, .ref q_t_tape, .int t_taped, .int t_at, .int t_fault, .int t_steps, .ref q_t_what, .ref q_t_numbers])), (q_t_many, .inl (cy 0, (2, .inl t_many))), (q_t_kind, .inl (cy 0, (200, .inl t_kind))), (q_t_byHand, .inl (cy 0, (200, .inl t_byHand))), (q_t_high, .inl (cy 0, (40, .inl t_high))), (q_t_px, .inl (cy 0, (200, .inl t_px))), (q_t_py, .inl (cy 0, (200, .inl t_py))), (q_t_pz, .inl (cy 0, (200, .inl t_pz))), (q_t_strip, .inl (cy 0, (200, .inl t_strip))), (q_t_shifts, .inl (cy 0, (8, .inl t_shifts))), (q_t_near, .inl (cy 1, (40, .inl t_near)))] → va_S A s.heap H locs → ∀ (ls : Array Slot), lv_has ls 6 [(0, .ref q_t), (1, .int v1), (2, .int v2), (3, .int v3), (5, .int v5)] → wp_X9_roofs_b163 Q t_px t_py t_pz t_strip t_shifts v1 v2 v3 n163 t_highs t_kind t_high t_near v5 → W p l e (headSpec wsX9_roofs ({ frames := 3, cells := 0, slots := 0, locals := 107 } : Room)).room s m (([.ref q_t, .int a1, .int a2, .int a3] : List Value)).toArray below meth c H locs 0 0 (MQ below (va_Qi (fun (r : Int32) (u : Int32 × (Nat → Int32) × (Nat → Int32) × (Nat → Int32)) => Q r u.1 u.2.1 u.2.2.1 u.2.2.2) (py_B D (fun (u : Int32 × (Nat → Int32) × (Nat → Int32) × (Nat → Int32)) => [(q_t, .inr (9, [.ref q_t_lanes, .ref q_t_sizes, .ref q_t_items, .ref q_t_spare, .ref q_t_many, .ref q_t_px, .ref q_t_py, .ref q_t_pz, .ref q_t_strip, .ref q_t_kind, .ref q_t_byHand, .ref q_t_round, .ref q_t_lost, .ref q_t_shifts, .ref q_t_matrix, .ref q_t_right, .ref q_t_found, .ref q_t_high, .int u.1, .ref q_t_near, .ref q_t_cells, .ref q_t_part, .ref q_t_before, .ref q_t_tape, .int t_taped, .int t_at, .int t_fault, .int t_steps, .ref q_t_what, .ref q_t_numbers])), (q_t_many, .inl (cy 0, (2, .inl t_many))), (q_t_kind, .inl (cy 0, (200, .inl u.2.1))), (q_t_byHand, .inl (cy 0, (200, .inl t_byHand))), (q_t_high, .inl (cy 0, (40, .inl u.2.2.1))), (q_t_px, .inl (cy 0, (200, .inl t_px))), (q_t_py, .inl (cy 0, (200, .inl t_py))), (q_t_pz, .inl (cy 0, (200, .inl t_pz))), (q_t_strip, .inl (cy 0, (200, .inl t_strip))), (q_t_shifts, .inl (cy 0, (8, .inl t_shifts))), (q_t_near, .inl (cy 1, (40, .inl u.2.2.2)))]) A) A) (([.ref q_t, .int a1, .int a2, .int a3] : List Value)).toArray s 0 0 A) (F0 m 163 ls []) := by
              intro v1 v2 v3 n163
              induction n163 with
              | zero => intro t_highs t_kind t_high t_near v5 H locs hP hD hS ls hl h; exact False.elim h
              | succ n163 ih163 =>
                intro t_highs t_kind t_high t_near v5 H locs hP hD hS ls hl h
                have h : wp_X9_roofs_b163_f (wp_X9_roofs_b163 Q t_px t_py t_pz t_strip t_shifts v1 v2 v3 n163) Q t_px t_py t_pz t_strip t_shifts v1 v2 v3 t_highs t_kind t_high t_near v5 := h
                unfold wp_X9_roofs_b163_f at h
                refine lv_iload hx hb dX9_roofs_163 (lv_at hl 4 rfl) ?_
                refine lv_bipush (v := (8 : Int32)) hx hb dX9_roofs_165 (by decide) ?_
                refine lv_icmp_ge (tgt := 190) hx hb dX9_roofs_167 (by decide) (fun c_ => ?_) (fun c_ => ?_)
                · have h := h.1 c_
                  refine lv_iload hx hb dX9_roofs_190 (lv_at hl 4 rfl) ?_
                  exact W.iret (v := v5) hx hb hr (fun t ht hW => ⟨⟨v5, (t_highs, t_kind, t_high, t_near), rfl, h, by rw [ht]; exact hP, hD⟩, hS.F ht⟩) hS.2.2 dX9_roofs_192
                · have h := h.2 c_
                  refine lv_aload_n hx hb dX9_roofs_170 rfl (lv_at hl 0 rfl) ?_
                  refine lv_iload_n hx hb dX9_roofs_171 rfl (lv_at hl 1 rfl) ?_
                  refine lv_iload_n hx hb dX9_roofs_172 rfl (lv_at hl 2 rfl) ?_
                  refine lv_iload_n hx hb dX9_roofs_173 rfl (lv_at hl 3 rfl) ?_
                  refine lv_iconst (v := (3 : Int32)) hx hb dX9_roofs_174 (by decide) ?_
                  refine lv_iload hx hb dX9_roofs_175 (lv_at hl 4 rfl) ?_
                  refine lv_iadd hx hb dX9_roofs_177 ?_
                  refine py_wi (wr := [(q_t_many, .inl (cy 0, (2, .inl t_many))), (q_t_byHand, .inl (cy 0, (200, .inl t_byHand)))]) (py_rVw (As := [.int v1, .int v2, .int v3, .int ((3 : Int32) + v5)]) ⟨hx, hb, hml, hown, hts⟩ hKK hP hD [0, 4, 5, 6, 7, 8, 9, 10, 2] rfl rfl rfl 0 9 rfl rfl (c_X9_findRoof l D cy q_t_lanes q_t_sizes q_t_items q_t_spare q_t_many q_t_px q_t_py q_t_pz q_t_strip q_t_kind q_t_byHand q_t_round q_t_lost q_t_shifts q_t_matrix q_t_right q_t_found q_t_high q_t_near q_t_cells q_t_part q_t_before q_t_tape q_t_what q_t_numbers q_t t_highs t_taped t_at t_fault t_steps t_high t_px t_py t_pz t_strip t_shifts t_near t_kind v1 v2 v3 ((3 : Int32) + v5) H.size _ h) (cwV 4 hts gX9_roofs_X9_findRoof rfl rfl rfl cdv_X9_findRoof ⟨Nat.le_of_ble_eq_true rfl, Nat.le_of_ble_eq_true rfl⟩) rfl hl.1 rfl (Nat.le_of_ble_eq_true rfl) ⟨Nat.zero_le _, Nat.zero_le _⟩ dX9_roofs_178) hP hD hS hA [0, 4, 5, 6, 7, 8, 9, 10, 2] [1, 3] rfl rfl rfl (by decide) (fun r_3 u H locs h hP hD hS => ?_)
                  obtain ⟨c_highs_4, c_high_5, c_near_6, c_kind_7⟩ := u
                  have hP := hP.sub (ws' := [(q_t, .inr (9, [.ref q_t_lanes, .ref q_t_sizes, .ref q_t_items, .ref q_t_spare, .ref q_t_many, .ref q_t_px, .ref q_t_py, .ref q_t_pz, .ref q_t_strip, .ref q_t_kind, .ref q_t_byHand, .ref q_t_round, .ref q_t_lost, .ref q_t_shifts, .ref q_t_matrix, .ref q_t_right, .ref q_t_found, .ref q_t_high, .int c_highs_4, .ref q_t_near, .ref q_t_cells, .ref q_t_part, .ref q_t_before, .ref q_t_tape, .int t_taped, .int t_at, .int t_fault, .int t_steps, .ref q_t_what, .ref q_t_numbers])), (q_t_many, .inl (cy 0, (2, .inl t_many))), (q_t_kind, .inl (cy 0, (200, .inl c_kind_7))), (q_t_byHand, .inl (cy 0, (200, .inl t_byHand))), (q_t_high, .inl (cy 0, (40, .inl c_high_5))), (q_t_px, .inl (cy 0, (200, .inl t_px))), (q_t_py, .inl (cy 0, (200, .inl t_py))), (q_t_pz, .inl (cy 0, (200, .inl t_pz))), (q_t_strip, .inl (cy 0, (200, .inl t_strip))), (q_t_shifts, .inl (cy 0, (8, .inl t_shifts))), (q_t_near, .inl (cy 1, (40, .inl c_near_6)))]) [2, 0, 10, 1, 3, 4, 5, 6, 7, 8, 9] rfl
                  have hD := hD.sub (ws' := [(q_t, .inr (9, [.ref q_t_lanes, .ref q_t_sizes, .ref q_t_items, .ref q_t_spare, .ref q_t_many, .ref q_t_px, .ref q_t_py, .ref q_t_pz, .ref q_t_strip, .ref q_t_kind, .ref q_t_byHand, .ref q_t_round, .ref q_t_lost, .ref q_t_shifts, .ref q_t_matrix, .ref q_t_right, .ref q_t_found, .ref q_t_high, .int c_highs_4, .ref q_t_near, .ref q_t_cells, .ref q_t_part, .ref q_t_before, .ref q_t_tape, .int t_taped, .int t_at, .int t_fault, .int t_steps, .ref q_t_what, .ref q_t_numbers])), (q_t_many, .inl (cy 0, (2, .inl t_many))), (q_t_kind, .inl (cy 0, (200, .inl c_kind_7))), (q_t_byHand, .inl (cy 0, (200, .inl t_byHand))), (q_t_high, .inl (cy 0, (40, .inl c_high_5))), (q_t_px, .inl (cy 0, (200, .inl t_px))), (q_t_py, .inl (cy 0, (200, .inl t_py))), (q_t_pz, .inl (cy 0, (200, .inl t_pz))), (q_t_strip, .inl (cy 0, (200, .inl t_strip))), (q_t_shifts, .inl (cy 0, (8, .inl t_shifts))), (q_t_near, .inl (cy 1, (40, .inl c_near_6)))]) [2, 0, 10, 1, 3, 4, 5, 6, 7, 8, 9] rfl rfl
                  refine lv_if_eq (tgt := 190) hx hb dX9_roofs_181 (by decide) (fun c_ => ?_) (fun c_ => ?_)
                  · have h := h.1 c_
                    refine lv_iload hx hb dX9_roofs_190 (lv_at hl 4 rfl) ?_
                    exact W.iret (v := v5) hx hb hr (fun t ht hW => ⟨⟨v5, (c_highs_4, c_kind_7, c_high_5, c_near_6), rfl, h, by rw [ht]; exact hP, hD⟩, hS.F ht⟩) hS.2.2 dX9_roofs_192
                  · have h := h.2 c_
                    obtain ⟨v5_8, ev5_8⟩ : ∃ y : Int32, y = v5 + (1 : Int32) := ⟨_, rfl⟩
                    have h := h v5_8 ev5_8
                    refine lv_iinc (v := v5_8) (lv' := [(5, .int v5_8), (0, .ref q_t), (1, .int v1), (2, .int v2), (3, .int v3)]) hx hb dX9_roofs_184 hl (k := 4) rfl (by rw [ev5_8]; rfl) (by decide) rfl (fun ls hl => ?_)
                    refine lv_goto (tgt := 163) hx hb dX9_roofs_187 (by decide) ?_
                    exact ih163 c_highs_4 c_kind_7 c_high_5 c_near_6 v5_8 _ _ hP hD hS _ (lv_sub hl [1, 2, 3, 4, 0] rfl) h
            refine lv_iconst (v := (0 : Int32)) hx hb dX9_roofs_160 (by decide) ?_
            refine lv_istore (lv' := [(5, .int (0 : Int32)), (0, .ref q_t), (1, .int v1), (2, .int v2), (3, .int v3)]) hx hb dX9_roofs_161 hl (by decide) rfl (fun ls hl => ?_)
            obtain ⟨n, h⟩ := h
            exact lp163 v1 v2 v3 n t_highs t_kind t_high t_near (0 : Int32) _ _ hP hD hS _ (lv_sub hl [1, 2, 3, 4, 0] rfl) h
          have lp94 : ∀ (t_near : Nat → Int32) (v1 : Int32) (v2 : Int32) (v3 : Int32) (n94 : Nat) (t_highs : Int32) (t_kind : Nat → Int32) (t_high : Nat → Int32) (v5 : Int32) (H : Heap) (locs : List Loc), va_P D vwCl [(q_t, .inr (9, [.ref q_t_lanes, .ref q_t_sizes, .ref q_t_items, .ref q_t_spare, .ref q_t_many, .ref q_t_px, .ref q_t_py, .ref q_t_pz, .ref q_t_strip, .ref q_t_kind, .ref q_t_byHand, .ref q_t_round, .ref q_t_lost, .ref q_t_shifts, .ref q_t_matrix, .ref q_t_right, .ref q_t_found, .ref q_t_high, .int t_highs, .ref q_t_near, .ref q_t_cells, .ref q_t_part, .ref q_t_before, .ref q_t_tape, .int t_taped, .int t_at, .int t_fault, .int t_steps, .ref q_t_what, .ref q_t_numbers])), (q_t_many, .inl (cy 0, (2, .inl t_many))), (q_t_kind, .inl (cy 0, (200, .inl t_kind))), (q_t_byHand, .inl (cy 0, (200, .inl t_byHand))), (q_t_high, .inl (cy 0, (40, .inl t_high))), (q_t_px, .inl (cy 0, (200, .inl t_px))), (q_t_py, .inl (cy 0, (200, .inl t_py))), (q_t_pz, .inl (cy 0, (200, .inl t_pz))), (q_t_strip, .inl (cy 0, (200, .inl t_strip))), (q_t_shifts, .inl (cy 0, (8, .inl t_shifts))), (q_t_near, .inl (cy 1, (40, .inl t_near)))] H → va_D A [(q_t, .inr (9, [.ref q_t_lanes, .ref q_t_sizes, .ref q_t_items, .ref q_t_spare, .ref q_t_many, .ref q_t_px, .ref q_t_py, .ref q_t_pz, .ref q_t_strip, .ref q_t_kind, .ref q_t_byHand, .ref q_t_round, .ref q_t_lost, .ref q_t_shifts, .ref q_t_matrix, .ref q_t_right, .ref q_t_found, .ref q_t_high, .int t_highs, .ref q_t_near, .ref q_t_cells, .ref q_t_part, .ref q_t_before, .ref q_t_tape, .int t_taped, .int t_at, .int t_fault, .int t_steps, .ref q_t_what, .ref q_t_numbers])), (q_t_many, .inl (cy 0, (2, .inl t_many))), (q_t_kind, .inl (cy 0, (200, .inl t_kind))), (q_t_byHand, .inl (cy 0, (200, .inl t_byHand))), (q_t_high, .inl (cy 0, (40, .inl t_high))), (q_t_px, .inl (cy 0, (200, .inl t_px))), (q_t_py, .inl (cy 0, (200, .inl t_py))), (q_t_pz, .inl (cy 0, (200, .inl t_pz))), (q_t_strip, .inl (cy 0, (200, .inl t_strip))), (q_t_shifts, .inl (cy 0, (8, .inl t_shifts))), (q_t_near, .inl (cy 1, (40, .inl t_near)))] → va_S A s.heap H locs → ∀ (ls : Array Slot), lv_has ls 6 [(0, .ref q_t), (1, .int v1), (2, .int v2), (3, .int v3), (5, .int v5)] → wp_X9_roofs_b94 (wp_X9_roofs_b160 Q t_px t_py t_pz t_strip t_shifts) t_many t_byHand t_near v1 v2 v3 n94 t_highs t_kind t_high v5 → W p l e (headSpec wsX9_roofs ({ frames := 3, cells := 0, slots := 0, locals := 107 } : Room)).room s m (([.ref q_t, .int a1, .int a2, .int a3] : List Value)).toArray below meth c H locs 0 0 (MQ below (va_Qi (fun (r : Int32) (u : Int32 × (Nat → Int32) × (Nat → Int32) × (Nat → Int32)) => Q r u.1 u.2.1 u.2.2.1 u.2.2.2) (py_B D (fun (u : Int32 × (Nat → Int32) × (Nat → Int32) × (Nat → Int32)) => [(q_t, .inr (9, [.ref q_t_lanes, .ref q_t_sizes, .ref q_t_items, .ref q_t_spare, .ref q_t_many, .ref q_t_px, .ref q_t_py, .ref q_t_pz, .ref q_t_strip, .ref q_t_kind, .ref q_t_byHand, .ref q_t_round, .ref q_t_lost, .ref q_t_shifts, .ref q_t_matrix, .ref q_t_right, .ref q_t_found, .ref q_t_high, .int u.1, .ref q_t_near, .ref q_t_cells, .ref q_t_part, .ref q_t_before, .ref q_t_tape, .int t_taped, .int t_at, .int t_fault, .int t_steps, .ref q_t_what, .ref q_t_numbers])), (q_t_many, .inl (cy 0, (2, .inl t_many))), (q_t_kind, .inl (cy 0, (200, .inl u.2.1))), (q_t_byHand, .inl (cy 0, (200, .inl t_byHand))), (q_t_high, .inl (cy 0, (40, .inl u.2.2.1))), (q_t_px, .inl (cy 0, (200, .inl t_px))), (q_t_py, .inl (cy 0, (200, .inl t_py))), (q_t_pz, .inl (cy 0, (200, .inl t_pz))), (q_t_strip, .inl (cy 0, (200, .inl t_strip))), (q_t_shifts, .inl (cy 0, (8, .inl t_shifts))), (q_t_near, .inl (cy 1, (40, .inl u.2.2.2)))]) A) A) (([.ref q_t, .int a1, .int a2, .int a3] : List Value)).toArray s 0 0 A) (F0 m 94 ls []) := by
            intro t_near v1 v2 v3 n94
            induction n94 with
            | zero => intro t_highs t_kind t_high v5 H locs hP hD hS ls hl h; exact False.elim h
            | succ n94 ih94 =>
              intro t_highs t_kind t_high v5 H locs hP hD hS ls hl h
              have h : wp_X9_roofs_b94_f (wp_X9_roofs_b94 (wp_X9_roofs_b160 Q t_px t_py t_pz t_strip t_shifts) t_many t_byHand t_near v1 v2 v3 n94) (wp_X9_roofs_b160 Q t_px t_py t_pz t_strip t_shifts) t_many t_byHand t_near v1 v2 v3 t_highs t_kind t_high v5 := h
              unfold wp_X9_roofs_b94_f at h
              refine lv_iload hx hb dX9_roofs_94 (lv_at hl 4 rfl) ?_
              refine lv_aload_n hx hb dX9_roofs_96 rfl (lv_at hl 0 rfl) ?_
              refine lv_iload_n hx hb dX9_roofs_97 rfl (lv_at hl 1 rfl) ?_
              refine py_ci (py_rVp (As := [.int v1]) ⟨hx, hb, hml, hown, hts⟩ hKK hP [0, 1] rfl 0 9 rfl rfl (c_X9_endOf l D cy q_t_lanes q_t_sizes q_t_items q_t_spare q_t_many q_t_px q_t_py q_t_pz q_t_strip q_t_kind q_t_byHand q_t_round q_t_lost q_t_shifts q_t_matrix q_t_right q_t_found q_t_high q_t_near q_t_cells q_t_part q_t_before q_t_tape q_t_what q_t_numbers q_t t_highs t_taped t_at t_fault t_steps t_many v1 _ h) (cwV 1 hts gX9_roofs_X9_endOf rfl rfl rfl cdv_X9_endOf ⟨Nat.le_of_ble_eq_true rfl, Nat.le_of_ble_eq_true rfl⟩) rfl hl.1 rfl (Nat.le_of_ble_eq_true rfl) ⟨Nat.zero_le _, Nat.zero_le _⟩ dX9_roofs_98) (fun r_9 h => ?_)
              refine lv_icmp_ge (tgt := 160) hx hb dX9_roofs_101 (by decide) (fun c_ => ?_) (fun c_ => ?_)
              · have h := h.1 c_
                exact j160 t_highs t_kind t_high t_near v1 v2 v3 _ _ hP hD hS _ (lv_sub hl [0, 1, 2, 3] rfl) h
              · have h := h.2 c_
                have j154 : ∀ (t_highs : Int32) (t_kind : Nat → Int32) (t_high : Nat → Int32) (v5 : Int32) (H : Heap) (locs : List Loc), va_P D vwCl [(q_t, .inr (9, [.ref q_t_lanes, .ref q_t_sizes, .ref q_t_items, .ref q_t_spare, .ref q_t_many, .ref q_t_px, .ref q_t_py, .ref q_t_pz, .ref q_t_strip, .ref q_t_kind, .ref q_t_byHand, .ref q_t_round, .ref q_t_lost, .ref q_t_shifts, .ref q_t_matrix, .ref q_t_right, .ref q_t_found, .ref q_t_high, .int t_highs, .ref q_t_near, .ref q_t_cells, .ref q_t_part, .ref q_t_before, .ref q_t_tape, .int t_taped, .int t_at, .int t_fault, .int t_steps, .ref q_t_what, .ref q_t_numbers])), (q_t_many, .inl (cy 0, (2, .inl t_many))), (q_t_kind, .inl (cy 0, (200, .inl t_kind))), (q_t_byHand, .inl (cy 0, (200, .inl t_byHand))), (q_t_high, .inl (cy 0, (40, .inl t_high))), (q_t_px, .inl (cy 0, (200, .inl t_px))), (q_t_py, .inl (cy 0, (200, .inl t_py))), (q_t_pz, .inl (cy 0, (200, .inl t_pz))), (q_t_strip, .inl (cy 0, (200, .inl t_strip))), (q_t_shifts, .inl (cy 0, (8, .inl t_shifts))), (q_t_near, .inl (cy 1, (40, .inl t_near)))] H → va_D A [(q_t, .inr (9, [.ref q_t_lanes, .ref q_t_sizes, .ref q_t_items, .ref q_t_spare, .ref q_t_many, .ref q_t_px, .ref q_t_py, .ref q_t_pz, .ref q_t_strip, .ref q_t_kind, .ref q_t_byHand, .ref q_t_round, .ref q_t_lost, .ref q_t_shifts, .ref q_t_matrix, .ref q_t_right, .ref q_t_found, .ref q_t_high, .int t_highs, .ref q_t_near, .ref q_t_cells, .ref q_t_part, .ref q_t_before, .ref q_t_tape, .int t_taped, .int t_at, .int t_fault, .int t_steps, .ref q_t_what, .ref q_t_numbers])), (q_t_many, .inl (cy 0, (2, .inl t_many))), (q_t_kind, .inl (cy 0, (200, .inl t_kind))), (q_t_byHand, .inl (cy 0, (200, .inl t_byHand))), (q_t_high, .inl (cy 0, (40, .inl t_high))), (q_t_px, .inl (cy 0, (200, .inl t_px))), (q_t_py, .inl (cy 0, (200, .inl t_py))), (q_t_pz, .inl (cy 0, (200, .inl t_pz))), (q_t_strip, .inl (cy 0, (200, .inl t_strip))), (q_t_shifts, .inl (cy 0, (8, .inl t_shifts))), (q_t_near, .inl (cy 1, (40, .inl t_near)))] → va_S A s.heap H locs → ∀ (ls : Array Slot), lv_has ls 6 [(0, .ref q_t), (1, .int v1), (2, .int v2), (3, .int v3), (5, .int v5)] → wp_X9_roofs_b154 (wp_X9_roofs_b94 (wp_X9_roofs_b160 Q t_px t_py t_pz t_strip t_shifts) t_many t_byHand t_near v1 v2 v3 n94) t_highs t_kind t_high v5 → W p l e (headSpec wsX9_roofs ({ frames := 3, cells := 0, slots := 0, locals := 107 } : Room)).room s m (([.ref q_t, .int a1, .int a2, .int a3] : List Value)).toArray below meth c H locs 0 0 (MQ below (va_Qi (fun (r : Int32) (u : Int32 × (Nat → Int32) × (Nat → Int32) × (Nat → Int32)) => Q r u.1 u.2.1 u.2.2.1 u.2.2.2) (py_B D (fun (u : Int32 × (Nat → Int32) × (Nat → Int32) × (Nat → Int32)) => [(q_t, .inr (9, [.ref q_t_lanes, .ref q_t_sizes, .ref q_t_items, .ref q_t_spare, .ref q_t_many, .ref q_t_px, .ref q_t_py, .ref q_t_pz, .ref q_t_strip, .ref q_t_kind, .ref q_t_byHand, .ref q_t_round, .ref q_t_lost, .ref q_t_shifts, .ref q_t_matrix, .ref q_t_right, .ref q_t_found, .ref q_t_high, .int u.1, .ref q_t_near, .ref q_t_cells, .ref q_t_part, .ref q_t_before, .ref q_t_tape, .int t_taped, .int t_at, .int t_fault, .int t_steps, .ref q_t_what, .ref q_t_numbers])), (q_t_many, .inl (cy 0, (2, .inl t_many))), (q_t_kind, .inl (cy 0, (200, .inl u.2.1))), (q_t_byHand, .inl (cy 0, (200, .inl t_byHand))), (q_t_high, .inl (cy 0, (40, .inl u.2.2.1))), (q_t_px, .inl (cy 0, (200, .inl t_px))), (q_t_py, .inl (cy 0, (200, .inl t_py))), (q_t_pz, .inl (cy 0, (200, .inl t_pz))), (q_t_strip, .inl (cy 0, (200, .inl t_strip))), (q_t_shifts, .inl (cy 0, (8, .inl t_shifts))), (q_t_near, .inl (cy 1, (40, .inl u.2.2.2)))]) A) A) (([.ref q_t, .int a1, .int a2, .int a3] : List Value)).toArray s 0 0 A) (F0 m 154 ls []) := by
                  intro t_highs t_kind t_high v5 H locs hP hD hS ls hl h
                  unfold wp_X9_roofs_b154 at h
                  obtain ⟨v5_10, ev5_10⟩ : ∃ y : Int32, y = v5 + (1 : Int32) := ⟨_, rfl⟩
                  have h := h v5_10 ev5_10
                  refine lv_iinc (v := v5_10) (lv' := [(5, .int v5_10), (0, .ref q_t), (1, .int v1), (2, .int v2), (3, .int v3)]) hx hb dX9_roofs_154 hl (k := 4) rfl (by rw [ev5_10]; rfl) (by decide) rfl (fun ls hl => ?_)
                  refine lv_goto (tgt := 94) hx hb dX9_roofs_157 (by decide) ?_
                  exact ih94 t_highs t_kind t_high v5_10 _ _ hP hD hS _ (lv_sub hl [1, 2, 3, 4, 0] rfl) h
                refine lv_aload_n hx hb dX9_roofs_104 rfl (lv_at hl 0 rfl) ?_
                refine va_get (D := D) (ci := 9) (C := RX9) (T := TX9) (N := 30) hx hb hts hi_X9 hown hK hP 0 rfl rfl 9 (by decide) (hts (.fieldLink RX9 37 "RayGroundModel" "kind" "[I") (List.mem_of_getElem? (i := 1) rfl)) (fun _ h9 => h9) rfl dX9_roofs_105 ?_
                refine lv_iload hx hb dX9_roofs_108 (lv_at hl 4 rfl) ?_
                refine py_iald hx hb hK hP 2 0 rfl rfl (k := v5.toNatClampNeg) rfl h.1 dX9_roofs_110 ?_
                have h := h.2
                refine lv_iconst (v := (2 : Int32)) hx hb dX9_roofs_111 (by decide) ?_
                refine lv_icmp_lt (tgt := 154) hx hb dX9_roofs_112 (by decide) (fun c_ => ?_) (fun c_ => ?_)
                · have h := h.1 c_
                  exact j154 t_highs t_kind t_high v5 _ _ hP hD hS _ hl h
                · have h := h.2 c_
                  refine lv_aload_n hx hb dX9_roofs_115 rfl (lv_at hl 0 rfl) ?_
                  refine va_get (D := D) (ci := 9) (C := RX9) (T := TX9) (N := 30) hx hb hts hi_X9 hown hK hP 0 rfl rfl 10 (by decide) (hts (.fieldLink RX9 40 "RayGroundModel" "byHand" "[I") (List.mem_of_getElem? (i := 2) rfl)) (fun _ h9 => h9) rfl dX9_roofs_116 ?_
                  refine lv_iload hx hb dX9_roofs_119 (lv_at hl 4 rfl) ?_
                  refine py_iald hx hb hK hP 3 0 rfl rfl (k := v5.toNatClampNeg) rfl h.1 dX9_roofs_121 ?_
                  have h := h.2
                  refine lv_if_ne (tgt := 154) hx hb dX9_roofs_122 (by decide) (fun c_ => ?_) (fun c_ => ?_)
                  · have h := h.2 c_
                    exact j154 t_highs t_kind t_high v5 _ _ hP hD hS _ hl h
                  · have h := h.1 c_
                    refine lv_aload_n hx hb dX9_roofs_125 rfl (lv_at hl 0 rfl) ?_
                    refine va_get (D := D) (ci := 9) (C := RX9) (T := TX9) (N := 30) hx hb hts hi_X9 hown hK hP 0 rfl rfl 9 (by decide) (hts (.fieldLink RX9 37 "RayGroundModel" "kind" "[I") (List.mem_of_getElem? (i := 1) rfl)) (fun _ h9 => h9) rfl dX9_roofs_126 ?_
                    refine lv_iload hx hb dX9_roofs_129 (lv_at hl 4 rfl) ?_
                    refine lv_iconst (v := (2 : Int32)) hx hb dX9_roofs_131 (by decide) ?_
                    refine py_iast hx hb hK hP hD hS 2 0 rfl rfl (k := v5.toNatClampNeg) rfl h.1 dX9_roofs_132 (fun H locs hP hD hS => ?_)
                    have h := h.2
                    have hP : va_P D vwCl [(q_t, .inr (9, [.ref q_t_lanes, .ref q_t_sizes, .ref q_t_items, .ref q_t_spare, .ref q_t_many, .ref q_t_px, .ref q_t_py, .ref q_t_pz, .ref q_t_strip, .ref q_t_kind, .ref q_t_byHand, .ref q_t_round, .ref q_t_lost, .ref q_t_shifts, .ref q_t_matrix, .ref q_t_right, .ref q_t_found, .ref q_t_high, .int t_highs, .ref q_t_near, .ref q_t_cells, .ref q_t_part, .ref q_t_before, .ref q_t_tape, .int t_taped, .int t_at, .int t_fault, .int t_steps, .ref q_t_what, .ref q_t_numbers])), (q_t_many, .inl (cy 0, (2, .inl t_many))), (q_t_kind, .inl (cy 0, (200, .inl (upd t_kind v5.toNatClampNeg (2 : Int32))))), (q_t_byHand, .inl (cy 0, (200, .inl t_byHand))), (q_t_high, .inl (cy 0, (40, .inl t_high))), (q_t_px, .inl (cy 0, (200, .inl t_px))), (q_t_py, .inl (cy 0, (200, .inl t_py))), (q_t_pz, .inl (cy 0, (200, .inl t_pz))), (q_t_strip, .inl (cy 0, (200, .inl t_strip))), (q_t_shifts, .inl (cy 0, (8, .inl t_shifts))), (q_t_near, .inl (cy 1, (40, .inl t_near)))] H := hP
                    have hD : va_D A [(q_t, .inr (9, [.ref q_t_lanes, .ref q_t_sizes, .ref q_t_items, .ref q_t_spare, .ref q_t_many, .ref q_t_px, .ref q_t_py, .ref q_t_pz, .ref q_t_strip, .ref q_t_kind, .ref q_t_byHand, .ref q_t_round, .ref q_t_lost, .ref q_t_shifts, .ref q_t_matrix, .ref q_t_right, .ref q_t_found, .ref q_t_high, .int t_highs, .ref q_t_near, .ref q_t_cells, .ref q_t_part, .ref q_t_before, .ref q_t_tape, .int t_taped, .int t_at, .int t_fault, .int t_steps, .ref q_t_what, .ref q_t_numbers])), (q_t_many, .inl (cy 0, (2, .inl t_many))), (q_t_kind, .inl (cy 0, (200, .inl (upd t_kind v5.toNatClampNeg (2 : Int32))))), (q_t_byHand, .inl (cy 0, (200, .inl t_byHand))), (q_t_high, .inl (cy 0, (40, .inl t_high))), (q_t_px, .inl (cy 0, (200, .inl t_px))), (q_t_py, .inl (cy 0, (200, .inl t_py))), (q_t_pz, .inl (cy 0, (200, .inl t_pz))), (q_t_strip, .inl (cy 0, (200, .inl t_strip))), (q_t_shifts, .inl (cy 0, (8, .inl t_shifts))), (q_t_near, .inl (cy 1, (40, .inl t_near)))] := hD
                    refine lv_aload_n hx hb dX9_roofs_133 rfl (lv_at hl 0 rfl) ?_
                    refine va_get (D := D) (ci := 9) (C := RX9) (T := TX9) (N := 30) hx hb hts hi_X9 hown hK hP 0 rfl rfl 17 (by decide) (hts (.fieldLink RX9 63 "RayGroundModel" "high" "[I") (List.mem_of_getElem? (i := 4) rfl)) (fun _ h9 => h9) rfl dX9_roofs_134 ?_
                    refine lv_aload_n hx hb dX9_roofs_137 rfl (lv_at hl 0 rfl) ?_
                    refine va_get (D := D) (ci := 9) (C := RX9) (T := TX9) (N := 30) hx hb hts hi_X9 hown hK hP 0 rfl rfl 18 (by decide) (hts (.fieldLink RX9 185 "RayGroundModel" "highs" "I") (List.mem_of_getElem? (i := 3) rfl)) (fun _ h9 => h9) rfl dX9_roofs_138 ?_
                    refine lv_iload hx hb dX9_roofs_141 (lv_at hl 4 rfl) ?_
                    refine py_iast hx hb hK hP hD hS 4 0 rfl rfl (k := t_highs.toNatClampNeg) rfl h.1 dX9_roofs_143 (fun H locs hP hD hS => ?_)
                    have h := h.2
                    have hP : va_P D vwCl [(q_t, .inr (9, [.ref q_t_lanes, .ref q_t_sizes, .ref q_t_items, .ref q_t_spare, .ref q_t_many, .ref q_t_px, .ref q_t_py, .ref q_t_pz, .ref q_t_strip, .ref q_t_kind, .ref q_t_byHand, .ref q_t_round, .ref q_t_lost, .ref q_t_shifts, .ref q_t_matrix, .ref q_t_right, .ref q_t_found, .ref q_t_high, .int t_highs, .ref q_t_near, .ref q_t_cells, .ref q_t_part, .ref q_t_before, .ref q_t_tape, .int t_taped, .int t_at, .int t_fault, .int t_steps, .ref q_t_what, .ref q_t_numbers])), (q_t_many, .inl (cy 0, (2, .inl t_many))), (q_t_kind, .inl (cy 0, (200, .inl (upd t_kind v5.toNatClampNeg (2 : Int32))))), (q_t_byHand, .inl (cy 0, (200, .inl t_byHand))), (q_t_high, .inl (cy 0, (40, .inl (upd t_high t_highs.toNatClampNeg v5)))), (q_t_px, .inl (cy 0, (200, .inl t_px))), (q_t_py, .inl (cy 0, (200, .inl t_py))), (q_t_pz, .inl (cy 0, (200, .inl t_pz))), (q_t_strip, .inl (cy 0, (200, .inl t_strip))), (q_t_shifts, .inl (cy 0, (8, .inl t_shifts))), (q_t_near, .inl (cy 1, (40, .inl t_near)))] H := hP
                    have hD : va_D A [(q_t, .inr (9, [.ref q_t_lanes, .ref q_t_sizes, .ref q_t_items, .ref q_t_spare, .ref q_t_many, .ref q_t_px, .ref q_t_py, .ref q_t_pz, .ref q_t_strip, .ref q_t_kind, .ref q_t_byHand, .ref q_t_round, .ref q_t_lost, .ref q_t_shifts, .ref q_t_matrix, .ref q_t_right, .ref q_t_found, .ref q_t_high, .int t_highs, .ref q_t_near, .ref q_t_cells, .ref q_t_part, .ref q_t_before, .ref q_t_tape, .int t_taped, .int t_at, .int t_fault, .int t_steps, .ref q_t_what, .ref q_t_numbers])), (q_t_many, .inl (cy 0, (2, .inl t_many))), (q_t_kind, .inl (cy 0, (200, .inl (upd t_kind v5.toNatClampNeg (2 : Int32))))), (q_t_byHand, .inl (cy 0, (200, .inl t_byHand))), (q_t_high, .inl (cy 0, (40, .inl (upd t_high t_highs.toNatClampNeg v5)))), (q_t_px, .inl (cy 0, (200, .inl t_px))), (q_t_py, .inl (cy 0, (200, .inl t_py))), (q_t_pz, .inl (cy 0, (200, .inl t_pz))), (q_t_strip, .inl (cy 0, (200, .inl t_strip))), (q_t_shifts, .inl (cy 0, (8, .inl t_shifts))), (q_t_near, .inl (cy 1, (40, .inl t_near)))] := hD
                    refine lv_aload_n hx hb dX9_roofs_144 rfl (lv_at hl 0 rfl) ?_
                    refine lv_dup hx hb dX9_roofs_145 rfl ?_
                    refine va_get (D := D) (ci := 9) (C := RX9) (T := TX9) (N := 30) hx hb hts hi_X9 hown hK hP 0 rfl rfl 18 (by decide) (hts (.fieldLink RX9 185 "RayGroundModel" "highs" "I") (List.mem_of_getElem? (i := 3) rfl)) (fun _ h9 => h9) rfl dX9_roofs_146 ?_
                    refine lv_iconst (v := (1 : Int32)) hx hb dX9_roofs_149 (by decide) ?_
                    refine lv_iadd hx hb dX9_roofs_150 ?_
                    refine va_put (D := D) (ci := 9) (v := .int (t_highs + (1 : Int32))) (ty := tyX9 18) (C := RX9) (T := TX9) (N := 30) hx hb hts hi_X9 tyX9 tyX9_ok nmX9 hown hK hP hD hS 0 rfl rfl 18 (by decide) (hts (.fieldLink RX9 185 "RayGroundModel" "highs" "I") (List.mem_of_getElem? (i := 3) rfl)) (fun _ h9 => h9) rfl (tyX9_ok 18 (by decide)) rfl rfl (Nat.le_of_ble_eq_true rfl) dX9_roofs_151 (fun H locs hP hD hS => ?_)
                    have hP : va_P D vwCl [(q_t, .inr (9, [.ref q_t_lanes, .ref q_t_sizes, .ref q_t_items, .ref q_t_spare, .ref q_t_many, .ref q_t_px, .ref q_t_py, .ref q_t_pz, .ref q_t_strip, .ref q_t_kind, .ref q_t_byHand, .ref q_t_round, .ref q_t_lost, .ref q_t_shifts, .ref q_t_matrix, .ref q_t_right, .ref q_t_found, .ref q_t_high, .int (t_highs + (1 : Int32)), .ref q_t_near, .ref q_t_cells, .ref q_t_part, .ref q_t_before, .ref q_t_tape, .int t_taped, .int t_at, .int t_fault, .int t_steps, .ref q_t_what, .ref q_t_numbers])), (q_t_many, .inl (cy 0, (2, .inl t_many))), (q_t_kind, .inl (cy 0, (200, .inl (upd t_kind v5.toNatClampNeg (2 : Int32))))), (q_t_byHand, .inl (cy 0, (200, .inl t_byHand))), (q_t_high, .inl (cy 0, (40, .inl (upd t_high t_highs.toNatClampNeg v5)))), (q_t_px, .inl (cy 0, (200, .inl t_px))), (q_t_py, .inl (cy 0, (200, .inl t_py))), (q_t_pz, .inl (cy 0, (200, .inl t_pz))), (q_t_strip, .inl (cy 0, (200, .inl t_strip))), (q_t_shifts, .inl (cy 0, (8, .inl t_shifts))), (q_t_near, .inl (cy 1, (40, .inl t_near)))] H := hP
                    have hD : va_D A [(q_t, .inr (9, [.ref q_t_lanes, .ref q_t_sizes, .ref q_t_items, .ref q_t_spare, .ref q_t_many, .ref q_t_px, .ref q_t_py, .ref q_t_pz, .ref q_t_strip, .ref q_t_kind, .ref q_t_byHand, .ref q_t_round, .ref q_t_lost, .ref q_t_shifts, .ref q_t_matrix, .ref q_t_right, .ref q_t_found, .ref q_t_high, .int (t_highs + (1 : Int32)), .ref q_t_near, .ref q_t_cells, .ref q_t_part, .ref q_t_before, .ref q_t_tape, .int t_taped, .int t_at, .int t_fault, .int t_steps, .ref q_t_what, .ref q_t_numbers])), (q_t_many, .inl (cy 0, (2, .inl t_many))), (q_t_kind, .inl (cy 0, (200, .inl (upd t_kind v5.toNatClampNeg (2 : Int32))))), (q_t_byHand, .inl (cy 0, (200, .inl t_byHand))), (q_t_high, .inl (cy 0, (40, .inl (upd t_high t_highs.toNatClampNeg v5)))), (q_t_px, .inl (cy 0, (200, .inl t_px))), (q_t_py, .inl (cy 0, (200, .inl t_py))), (q_t_pz, .inl (cy 0, (200, .inl t_pz))), (q_t_strip, .inl (cy 0, (200, .inl t_strip))), (q_t_shifts, .inl (cy 0, (8, .inl t_shifts))), (q_t_near, .inl (cy 1, (40, .inl t_near)))] := hD
                    exact j154 (t_highs + (1 : Int32)) (upd t_kind v5.toNatClampNeg (2 : Int32)) (upd t_high t_highs.toNatClampNeg v5) v5 _ _ hP hD hS _ hl h
          refine lv_aload_n hx hb dX9_roofs_83 rfl (lv_at hl 0 rfl) ?_
          refine lv_iconst (v := (0 : Int32)) hx hb dX9_roofs_84 (by decide) ?_
          refine va_put (D := D) (ci := 9) (v := .int (0 : Int32)) (ty := tyX9 18) (C := RX9) (T := TX9) (N := 30) hx hb hts hi_X9 tyX9 tyX9_ok nmX9 hown hK hP hD hS 0 rfl rfl 18 (by decide) (hts (.fieldLink RX9 185 "RayGroundModel" "highs" "I") (List.mem_of_getElem? (i := 3) rfl)) (fun _ h9 => h9) rfl (tyX9_ok 18 (by decide)) rfl rfl (Nat.le_of_ble_eq_true rfl) dX9_roofs_85 (fun H locs hP hD hS => ?_)
          have hP : va_P D vwCl [(q_t, .inr (9, [.ref q_t_lanes, .ref q_t_sizes, .ref q_t_items, .ref q_t_spare, .ref q_t_many, .ref q_t_px, .ref q_t_py, .ref q_t_pz, .ref q_t_strip, .ref q_t_kind, .ref q_t_byHand, .ref q_t_round, .ref q_t_lost, .ref q_t_shifts, .ref q_t_matrix, .ref q_t_right, .ref q_t_found, .ref q_t_high, .int (0 : Int32), .ref q_t_near, .ref q_t_cells, .ref q_t_part, .ref q_t_before, .ref q_t_tape, .int t_taped, .int t_at, .int t_fault, .int t_steps, .ref q_t_what, .ref q_t_numbers])), (q_t_many, .inl (cy 0, (2, .inl t_many))), (q_t_kind, .inl (cy 0, (200, .inl t_kind))), (q_t_byHand, .inl (cy 0, (200, .inl t_byHand))), (q_t_high, .inl (cy 0, (40, .inl t_high))), (q_t_px, .inl (cy 0, (200, .inl t_px))), (q_t_py, .inl (cy 0, (200, .inl t_py))), (q_t_pz, .inl (cy 0, (200, .inl t_pz))), (q_t_strip, .inl (cy 0, (200, .inl t_strip))), (q_t_shifts, .inl (cy 0, (8, .inl t_shifts))), (q_t_near, .inl (cy 1, (40, .inl t_near)))] H := hP
          have hD : va_D A [(q_t, .inr (9, [.ref q_t_lanes, .ref q_t_sizes, .ref q_t_items, .ref q_t_spare, .ref q_t_many, .ref q_t_px, .ref q_t_py, .ref q_t_pz, .ref q_t_strip, .ref q_t_kind, .ref q_t_byHand, .ref q_t_round, .ref q_t_lost, .ref q_t_shifts, .ref q_t_matrix, .ref q_t_right, .ref q_t_found, .ref q_t_high, .int (0 : Int32), .ref q_t_near, .ref q_t_cells, .ref q_t_part, .ref q_t_before, .ref q_t_tape, .int t_taped, .int t_at, .int t_fault, .int t_steps, .ref q_t_what, .ref q_t_numbers])), (q_t_many, .inl (cy 0, (2, .inl t_many))), (q_t_kind, .inl (cy 0, (200, .inl t_kind))), (q_t_byHand, .inl (cy 0, (200, .inl t_byHand))), (q_t_high, .inl (cy 0, (40, .inl t_high))), (q_t_px, .inl (cy 0, (200, .inl t_px))), (q_t_py, .inl (cy 0, (200, .inl t_py))), (q_t_pz, .inl (cy 0, (200, .inl t_pz))), (q_t_strip, .inl (cy 0, (200, .inl t_strip))), (q_t_shifts, .inl (cy 0, (8, .inl t_shifts))), (q_t_near, .inl (cy 1, (40, .inl t_near)))] := hD
          refine lv_bipush (v := (100 : Int32)) hx hb dX9_roofs_88 (by decide) ?_
          refine lv_iload_n hx hb dX9_roofs_90 rfl (lv_at hl 1 rfl) ?_
          refine lv_imul hx hb dX9_roofs_91 ?_
          refine lv_topi (fun v5_11 ev5_11 => ?_)
          have h := h v5_11 ev5_11
          refine lv_istore (lv' := [(5, .int v5_11), (0, .ref q_t), (1, .int v1), (2, .int v2), (3, .int v3), (4, .int v4)]) hx hb dX9_roofs_92 hl (by decide) rfl (fun ls hl => ?_)
          obtain ⟨n, h⟩ := h
          exact lp94 t_near v1 v2 v3 n (0 : Int32) t_kind t_high v5_11 _ _ hP hD hS _ (lv_sub hl [1, 2, 3, 4, 0] rfl) h
        · have h := h.2 c_
          refine lv_bipush (v := (-3 : Int32)) hx hb dX9_roofs_80 (by decide) ?_
          exact W.iret (v := (-3 : Int32)) hx hb hr (fun t ht hW => ⟨⟨(-3 : Int32), (t_highs, t_kind, t_high, t_near), rfl, h, by rw [ht]; exact hP, hD⟩, hS.F ht⟩) hS.2.2 dX9_roofs_82
      have lp26 : ∀ (t_highs : Int32) (t_kind : Nat → Int32) (t_high : Nat → Int32) (t_near : Nat → Int32) (v1 : Int32) (v2 : Int32) (v3 : Int32) (n26 : Nat) (v4 : Int32) (v5 : Int32) (H : Heap) (locs : List Loc), va_P D vwCl [(q_t, .inr (9, [.ref q_t_lanes, .ref q_t_sizes, .ref q_t_items, .ref q_t_spare, .ref q_t_many, .ref q_t_px, .ref q_t_py, .ref q_t_pz, .ref q_t_strip, .ref q_t_kind, .ref q_t_byHand, .ref q_t_round, .ref q_t_lost, .ref q_t_shifts, .ref q_t_matrix, .ref q_t_right, .ref q_t_found, .ref q_t_high, .int t_highs, .ref q_t_near, .ref q_t_cells, .ref q_t_part, .ref q_t_before, .ref q_t_tape, .int t_taped, .int t_at, .int t_fault, .int t_steps, .ref q_t_what, .ref q_t_numbers])), (q_t_many, .inl (cy 0, (2, .inl t_many))), (q_t_kind, .inl (cy 0, (200, .inl t_kind))), (q_t_byHand, .inl (cy 0, (200, .inl t_byHand))), (q_t_high, .inl (cy 0, (40, .inl t_high))), (q_t_px, .inl (cy 0, (200, .inl t_px))), (q_t_py, .inl (cy 0, (200, .inl t_py))), (q_t_pz, .inl (cy 0, (200, .inl t_pz))), (q_t_strip, .inl (cy 0, (200, .inl t_strip))), (q_t_shifts, .inl (cy 0, (8, .inl t_shifts))), (q_t_near, .inl (cy 1, (40, .inl t_near)))] H → va_D A [(q_t, .inr (9, [.ref q_t_lanes, .ref q_t_sizes, .ref q_t_items, .ref q_t_spare, .ref q_t_many, .ref q_t_px, .ref q_t_py, .ref q_t_pz, .ref q_t_strip, .ref q_t_kind, .ref q_t_byHand, .ref q_t_round, .ref q_t_lost, .ref q_t_shifts, .ref q_t_matrix, .ref q_t_right, .ref q_t_found, .ref q_t_high, .int t_highs, .ref q_t_near, .ref q_t_cells, .ref q_t_part, .ref q_t_before, .ref q_t_tape, .int t_taped, .int t_at, .int t_fault, .int t_steps, .ref q_t_what, .ref q_t_numbers])), (q_t_many, .inl (cy 0, (2, .inl t_many))), (q_t_kind, .inl (cy 0, (200, .inl t_kind))), (q_t_byHand, .inl (cy 0, (200, .inl t_byHand))), (q_t_high, .inl (cy 0, (40, .inl t_high))), (q_t_px, .inl (cy 0, (200, .inl t_px))), (q_t_py, .inl (cy 0, (200, .inl t_py))), (q_t_pz, .inl (cy 0, (200, .inl t_pz))), (q_t_strip, .inl (cy 0, (200, .inl t_strip))), (q_t_shifts, .inl (cy 0, (8, .inl t_shifts))), (q_t_near, .inl (cy 1, (40, .inl t_near)))] → va_S A s.heap H locs → ∀ (ls : Array Slot), lv_has ls 6 [(0, .ref q_t), (1, .int v1), (2, .int v2), (3, .int v3), (4, .int v4), (5, .int v5)] → wp_X9_roofs_b26 (wp_X9_roofs_b73 Q t_many t_byHand t_px t_py t_pz t_strip t_shifts) t_many t_byHand t_highs t_kind t_high t_near v1 v2 v3 n26 v4 v5 → W p l e (headSpec wsX9_roofs ({ frames := 3, cells := 0, slots := 0, locals := 107 } : Room)).room s m (([.ref q_t, .int a1, .int a2, .int a3] : List Value)).toArray below meth c H locs 0 0 (MQ below (va_Qi (fun (r : Int32) (u : Int32 × (Nat → Int32) × (Nat → Int32) × (Nat → Int32)) => Q r u.1 u.2.1 u.2.2.1 u.2.2.2) (py_B D (fun (u : Int32 × (Nat → Int32) × (Nat → Int32) × (Nat → Int32)) => [(q_t, .inr (9, [.ref q_t_lanes, .ref q_t_sizes, .ref q_t_items, .ref q_t_spare, .ref q_t_many, .ref q_t_px, .ref q_t_py, .ref q_t_pz, .ref q_t_strip, .ref q_t_kind, .ref q_t_byHand, .ref q_t_round, .ref q_t_lost, .ref q_t_shifts, .ref q_t_matrix, .ref q_t_right, .ref q_t_found, .ref q_t_high, .int u.1, .ref q_t_near, .ref q_t_cells, .ref q_t_part, .ref q_t_before, .ref q_t_tape, .int t_taped, .int t_at, .int t_fault, .int t_steps, .ref q_t_what, .ref q_t_numbers])), (q_t_many, .inl (cy 0, (2, .inl t_many))), (q_t_kind, .inl (cy 0, (200, .inl u.2.1))), (q_t_byHand, .inl (cy 0, (200, .inl t_byHand))), (q_t_high, .inl (cy 0, (40, .inl u.2.2.1))), (q_t_px, .inl (cy 0, (200, .inl t_px))), (q_t_py, .inl (cy 0, (200, .inl t_py))), (q_t_pz, .inl (cy 0, (200, .inl t_pz))), (q_t_strip, .inl (cy 0, (200, .inl t_strip))), (q_t_shifts, .inl (cy 0, (8, .inl t_shifts))), (q_t_near, .inl (cy 1, (40, .inl u.2.2.2)))]) A) A) (([.ref q_t, .int a1, .int a2, .int a3] : List Value)).toArray s 0 0 A) (F0 m 26 ls []) := by
        intro t_highs t_kind t_high t_near v1 v2 v3 n26
        induction n26 with
        | zero => intro v4 v5 H locs hP hD hS ls hl h; exact False.elim h
        | succ n26 ih26 =>
          intro v4 v5 H locs hP hD hS ls hl h
          have h : wp_X9_roofs_b26_f (wp_X9_roofs_b26 (wp_X9_roofs_b73 Q t_many t_byHand t_px t_py t_pz t_strip t_shifts) t_many t_byHand t_highs t_kind t_high t_near v1 v2 v3 n26) (wp_X9_roofs_b73 Q t_many t_byHand t_px t_py t_pz t_strip t_shifts) t_many t_byHand t_highs t_kind t_high t_near v1 v2 v3 v4 v5 := h
          unfold wp_X9_roofs_b26_f at h
          refine lv_iload hx hb dX9_roofs_26 (lv_at hl 5 rfl) ?_
          refine lv_aload_n hx hb dX9_roofs_28 rfl (lv_at hl 0 rfl) ?_
          refine lv_iload_n hx hb dX9_roofs_29 rfl (lv_at hl 1 rfl) ?_
          refine py_ci (py_rVp (As := [.int v1]) ⟨hx, hb, hml, hown, hts⟩ hKK hP [0, 1] rfl 0 9 rfl rfl (c_X9_endOf l D cy q_t_lanes q_t_sizes q_t_items q_t_spare q_t_many q_t_px q_t_py q_t_pz q_t_strip q_t_kind q_t_byHand q_t_round q_t_lost q_t_shifts q_t_matrix q_t_right q_t_found q_t_high q_t_near q_t_cells q_t_part q_t_before q_t_tape q_t_what q_t_numbers q_t t_highs t_taped t_at t_fault t_steps t_many v1 _ h) (cwV 1 hts gX9_roofs_X9_endOf rfl rfl rfl cdv_X9_endOf ⟨Nat.le_of_ble_eq_true rfl, Nat.le_of_ble_eq_true rfl⟩) rfl hl.1 rfl (Nat.le_of_ble_eq_true rfl) ⟨Nat.zero_le _, Nat.zero_le _⟩ dX9_roofs_30) (fun r_12 h => ?_)
          refine lv_icmp_ge (tgt := 73) hx hb dX9_roofs_33 (by decide) (fun c_ => ?_) (fun c_ => ?_)
          · have h := h.1 c_
            exact j73 t_highs t_kind t_high t_near v1 v2 v3 v4 _ _ hP hD hS _ (lv_sub hl [0, 1, 2, 3, 4] rfl) h
          · have h := h.2 c_
            have j64 : ∀ (v5 : Int32) (s0 : Int32) (s1 : Int32) (H : Heap) (locs : List Loc), va_P D vwCl [(q_t, .inr (9, [.ref q_t_lanes, .ref q_t_sizes, .ref q_t_items, .ref q_t_spare, .ref q_t_many, .ref q_t_px, .ref q_t_py, .ref q_t_pz, .ref q_t_strip, .ref q_t_kind, .ref q_t_byHand, .ref q_t_round, .ref q_t_lost, .ref q_t_shifts, .ref q_t_matrix, .ref q_t_right, .ref q_t_found, .ref q_t_high, .int t_highs, .ref q_t_near, .ref q_t_cells, .ref q_t_part, .ref q_t_before, .ref q_t_tape, .int t_taped, .int t_at, .int t_fault, .int t_steps, .ref q_t_what, .ref q_t_numbers])), (q_t_many, .inl (cy 0, (2, .inl t_many))), (q_t_kind, .inl (cy 0, (200, .inl t_kind))), (q_t_byHand, .inl (cy 0, (200, .inl t_byHand))), (q_t_high, .inl (cy 0, (40, .inl t_high))), (q_t_px, .inl (cy 0, (200, .inl t_px))), (q_t_py, .inl (cy 0, (200, .inl t_py))), (q_t_pz, .inl (cy 0, (200, .inl t_pz))), (q_t_strip, .inl (cy 0, (200, .inl t_strip))), (q_t_shifts, .inl (cy 0, (8, .inl t_shifts))), (q_t_near, .inl (cy 1, (40, .inl t_near)))] H → va_D A [(q_t, .inr (9, [.ref q_t_lanes, .ref q_t_sizes, .ref q_t_items, .ref q_t_spare, .ref q_t_many, .ref q_t_px, .ref q_t_py, .ref q_t_pz, .ref q_t_strip, .ref q_t_kind, .ref q_t_byHand, .ref q_t_round, .ref q_t_lost, .ref q_t_shifts, .ref q_t_matrix, .ref q_t_right, .ref q_t_found, .ref q_t_high, .int t_highs, .ref q_t_near, .ref q_t_cells, .ref q_t_part, .ref q_t_before, .ref q_t_tape, .int t_taped, .int t_at, .int t_fault, .int t_steps, .ref q_t_what, .ref q_t_numbers])), (q_t_many, .inl (cy 0, (2, .inl t_many))), (q_t_kind, .inl (cy 0, (200, .inl t_kind))), (q_t_byHand, .inl (cy 0, (200, .inl t_byHand))), (q_t_high, .inl (cy 0, (40, .inl t_high))), (q_t_px, .inl (cy 0, (200, .inl t_px))), (q_t_py, .inl (cy 0, (200, .inl t_py))), (q_t_pz, .inl (cy 0, (200, .inl t_pz))), (q_t_strip, .inl (cy 0, (200, .inl t_strip))), (q_t_shifts, .inl (cy 0, (8, .inl t_shifts))), (q_t_near, .inl (cy 1, (40, .inl t_near)))] → va_S A s.heap H locs → ∀ (ls : Array Slot), lv_has ls 6 [(0, .ref q_t), (1, .int v1), (2, .int v2), (3, .int v3), (5, .int v5)] → wp_X9_roofs_b64 (wp_X9_roofs_b26 (wp_X9_roofs_b73 Q t_many t_byHand t_px t_py t_pz t_strip t_shifts) t_many t_byHand t_highs t_kind t_high t_near v1 v2 v3 n26) v5 s0 s1 → W p l e (headSpec wsX9_roofs ({ frames := 3, cells := 0, slots := 0, locals := 107 } : Room)).room s m (([.ref q_t, .int a1, .int a2, .int a3] : List Value)).toArray below meth c H locs 0 0 (MQ below (va_Qi (fun (r : Int32) (u : Int32 × (Nat → Int32) × (Nat → Int32) × (Nat → Int32)) => Q r u.1 u.2.1 u.2.2.1 u.2.2.2) (py_B D (fun (u : Int32 × (Nat → Int32) × (Nat → Int32) × (Nat → Int32)) => [(q_t, .inr (9, [.ref q_t_lanes, .ref q_t_sizes, .ref q_t_items, .ref q_t_spare, .ref q_t_many, .ref q_t_px, .ref q_t_py, .ref q_t_pz, .ref q_t_strip, .ref q_t_kind, .ref q_t_byHand, .ref q_t_round, .ref q_t_lost, .ref q_t_shifts, .ref q_t_matrix, .ref q_t_right, .ref q_t_found, .ref q_t_high, .int u.1, .ref q_t_near, .ref q_t_cells, .ref q_t_part, .ref q_t_before, .ref q_t_tape, .int t_taped, .int t_at, .int t_fault, .int t_steps, .ref q_t_what, .ref q_t_numbers])), (q_t_many, .inl (cy 0, (2, .inl t_many))), (q_t_kind, .inl (cy 0, (200, .inl u.2.1))), (q_t_byHand, .inl (cy 0, (200, .inl t_byHand))), (q_t_high, .inl (cy 0, (40, .inl u.2.2.1))), (q_t_px, .inl (cy 0, (200, .inl t_px))), (q_t_py, .inl (cy 0, (200, .inl t_py))), (q_t_pz, .inl (cy 0, (200, .inl t_pz))), (q_t_strip, .inl (cy 0, (200, .inl t_strip))), (q_t_shifts, .inl (cy 0, (8, .inl t_shifts))), (q_t_near, .inl (cy 1, (40, .inl u.2.2.2)))]) A) A) (([.ref q_t, .int a1, .int a2, .int a3] : List Value)).toArray s 0 0 A) (F0 m 64 ls [.int s1, .int s0]) := by
              intro v5 s0 s1 H locs hP hD hS ls hl h
              unfold wp_X9_roofs_b64 at h
              refine lv_iadd hx hb dX9_roofs_64 ?_
              refine lv_topi (fun v4_13 ev4_13 => ?_)
              have h := h v4_13 ev4_13
              refine lv_istore (lv' := [(4, .int v4_13), (0, .ref q_t), (1, .int v1), (2, .int v2), (3, .int v3), (5, .int v5)]) hx hb dX9_roofs_65 hl (by decide) rfl (fun ls hl => ?_)
              obtain ⟨v5_14, ev5_14⟩ : ∃ y : Int32, y = v5 + (1 : Int32) := ⟨_, rfl⟩
              have h := h v5_14 ev5_14
              refine lv_iinc (v := v5_14) (lv' := [(5, .int v5_14), (4, .int v4_13), (0, .ref q_t), (1, .int v1), (2, .int v2), (3, .int v3)]) hx hb dX9_roofs_67 hl (k := 5) rfl (by rw [ev5_14]; rfl) (by decide) rfl (fun ls hl => ?_)
              refine lv_goto (tgt := 26) hx hb dX9_roofs_70 (by decide) ?_
              exact ih26 v4_13 v5_14 _ _ hP hD hS _ (lv_sub hl [2, 3, 4, 5, 1, 0] rfl) h
            have j63 : ∀ (v5 : Int32) (s0 : Int32) (H : Heap) (locs : List Loc), va_P D vwCl [(q_t, .inr (9, [.ref q_t_lanes, .ref q_t_sizes, .ref q_t_items, .ref q_t_spare, .ref q_t_many, .ref q_t_px, .ref q_t_py, .ref q_t_pz, .ref q_t_strip, .ref q_t_kind, .ref q_t_byHand, .ref q_t_round, .ref q_t_lost, .ref q_t_shifts, .ref q_t_matrix, .ref q_t_right, .ref q_t_found, .ref q_t_high, .int t_highs, .ref q_t_near, .ref q_t_cells, .ref q_t_part, .ref q_t_before, .ref q_t_tape, .int t_taped, .int t_at, .int t_fault, .int t_steps, .ref q_t_what, .ref q_t_numbers])), (q_t_many, .inl (cy 0, (2, .inl t_many))), (q_t_kind, .inl (cy 0, (200, .inl t_kind))), (q_t_byHand, .inl (cy 0, (200, .inl t_byHand))), (q_t_high, .inl (cy 0, (40, .inl t_high))), (q_t_px, .inl (cy 0, (200, .inl t_px))), (q_t_py, .inl (cy 0, (200, .inl t_py))), (q_t_pz, .inl (cy 0, (200, .inl t_pz))), (q_t_strip, .inl (cy 0, (200, .inl t_strip))), (q_t_shifts, .inl (cy 0, (8, .inl t_shifts))), (q_t_near, .inl (cy 1, (40, .inl t_near)))] H → va_D A [(q_t, .inr (9, [.ref q_t_lanes, .ref q_t_sizes, .ref q_t_items, .ref q_t_spare, .ref q_t_many, .ref q_t_px, .ref q_t_py, .ref q_t_pz, .ref q_t_strip, .ref q_t_kind, .ref q_t_byHand, .ref q_t_round, .ref q_t_lost, .ref q_t_shifts, .ref q_t_matrix, .ref q_t_right, .ref q_t_found, .ref q_t_high, .int t_highs, .ref q_t_near, .ref q_t_cells, .ref q_t_part, .ref q_t_before, .ref q_t_tape, .int t_taped, .int t_at, .int t_fault, .int t_steps, .ref q_t_what, .ref q_t_numbers])), (q_t_many, .inl (cy 0, (2, .inl t_many))), (q_t_kind, .inl (cy 0, (200, .inl t_kind))), (q_t_byHand, .inl (cy 0, (200, .inl t_byHand))), (q_t_high, .inl (cy 0, (40, .inl t_high))), (q_t_px, .inl (cy 0, (200, .inl t_px))), (q_t_py, .inl (cy 0, (200, .inl t_py))), (q_t_pz, .inl (cy 0, (200, .inl t_pz))), (q_t_strip, .inl (cy 0, (200, .inl t_strip))), (q_t_shifts, .inl (cy 0, (8, .inl t_shifts))), (q_t_near, .inl (cy 1, (40, .inl t_near)))] → va_S A s.heap H locs → ∀ (ls : Array Slot), lv_has ls 6 [(0, .ref q_t), (1, .int v1), (2, .int v2), (3, .int v3), (5, .int v5)] → wp_X9_roofs_b63 (wp_X9_roofs_b26 (wp_X9_roofs_b73 Q t_many t_byHand t_px t_py t_pz t_strip t_shifts) t_many t_byHand t_highs t_kind t_high t_near v1 v2 v3 n26) v5 s0 → W p l e (headSpec wsX9_roofs ({ frames := 3, cells := 0, slots := 0, locals := 107 } : Room)).room s m (([.ref q_t, .int a1, .int a2, .int a3] : List Value)).toArray below meth c H locs 0 0 (MQ below (va_Qi (fun (r : Int32) (u : Int32 × (Nat → Int32) × (Nat → Int32) × (Nat → Int32)) => Q r u.1 u.2.1 u.2.2.1 u.2.2.2) (py_B D (fun (u : Int32 × (Nat → Int32) × (Nat → Int32) × (Nat → Int32)) => [(q_t, .inr (9, [.ref q_t_lanes, .ref q_t_sizes, .ref q_t_items, .ref q_t_spare, .ref q_t_many, .ref q_t_px, .ref q_t_py, .ref q_t_pz, .ref q_t_strip, .ref q_t_kind, .ref q_t_byHand, .ref q_t_round, .ref q_t_lost, .ref q_t_shifts, .ref q_t_matrix, .ref q_t_right, .ref q_t_found, .ref q_t_high, .int u.1, .ref q_t_near, .ref q_t_cells, .ref q_t_part, .ref q_t_before, .ref q_t_tape, .int t_taped, .int t_at, .int t_fault, .int t_steps, .ref q_t_what, .ref q_t_numbers])), (q_t_many, .inl (cy 0, (2, .inl t_many))), (q_t_kind, .inl (cy 0, (200, .inl u.2.1))), (q_t_byHand, .inl (cy 0, (200, .inl t_byHand))), (q_t_high, .inl (cy 0, (40, .inl u.2.2.1))), (q_t_px, .inl (cy 0, (200, .inl t_px))), (q_t_py, .inl (cy 0, (200, .inl t_py))), (q_t_pz, .inl (cy 0, (200, .inl t_pz))), (q_t_strip, .inl (cy 0, (200, .inl t_strip))), (q_t_shifts, .inl (cy 0, (8, .inl t_shifts))), (q_t_near, .inl (cy 1, (40, .inl u.2.2.2)))]) A) A) (([.ref q_t, .int a1, .int a2, .int a3] : List Value)).toArray s 0 0 A) (F0 m 63 ls [.int s0]) := by
              intro v5 s0 H locs hP hD hS ls hl h
              unfold wp_X9_roofs_b63 at h
              refine lv_iconst (v := (0 : Int32)) hx hb dX9_roofs_63 (by decide) ?_
              exact j64 v5 s0 (0 : Int32) _ _ hP hD hS _ hl h
            refine lv_iload hx hb dX9_roofs_36 (lv_at hl 4 rfl) ?_
            refine lv_aload_n hx hb dX9_roofs_38 rfl (lv_at hl 0 rfl) ?_
            refine va_get (D := D) (ci := 9) (C := RX9) (T := TX9) (N := 30) hx hb hts hi_X9 hown hK hP 0 rfl rfl 9 (by decide) (hts (.fieldLink RX9 37 "RayGroundModel" "kind" "[I") (List.mem_of_getElem? (i := 1) rfl)) (fun _ h9 => h9) rfl dX9_roofs_39 ?_
            refine lv_iload hx hb dX9_roofs_42 (lv_at hl 5 rfl) ?_
            refine py_iald hx hb hK hP 2 0 rfl rfl (k := v5.toNatClampNeg) rfl h.1 dX9_roofs_44 ?_
            have h := h.2
            refine lv_iconst (v := (2 : Int32)) hx hb dX9_roofs_45 (by decide) ?_
            refine lv_icmp_lt (tgt := 63) hx hb dX9_roofs_46 (by decide) (fun c_ => ?_) (fun c_ => ?_)
            · have h := h.1 c_
              exact j63 v5 v4 _ _ hP hD hS _ (lv_sub hl [0, 1, 2, 3, 5] rfl) h
            · have h := h.2 c_
              refine lv_aload_n hx hb dX9_roofs_49 rfl (lv_at hl 0 rfl) ?_
              refine va_get (D := D) (ci := 9) (C := RX9) (T := TX9) (N := 30) hx hb hts hi_X9 hown hK hP 0 rfl rfl 10 (by decide) (hts (.fieldLink RX9 40 "RayGroundModel" "byHand" "[I") (List.mem_of_getElem? (i := 2) rfl)) (fun _ h9 => h9) rfl dX9_roofs_50 ?_
              refine lv_iload hx hb dX9_roofs_53 (lv_at hl 5 rfl) ?_
              refine py_iald hx hb hK hP 3 0 rfl rfl (k := v5.toNatClampNeg) rfl h.1 dX9_roofs_55 ?_
              have h := h.2
              refine lv_if_ne (tgt := 63) hx hb dX9_roofs_56 (by decide) (fun c_ => ?_) (fun c_ => ?_)
              · have h := h.2 c_
                exact j63 v5 v4 _ _ hP hD hS _ (lv_sub hl [0, 1, 2, 3, 5] rfl) h
              · have h := h.1 c_
                refine lv_iconst (v := (1 : Int32)) hx hb dX9_roofs_59 (by decide) ?_
                refine lv_goto (tgt := 64) hx hb dX9_roofs_60 (by decide) ?_
                exact j64 v5 v4 (1 : Int32) _ _ hP hD hS _ (lv_sub hl [0, 1, 2, 3, 5] rfl) h
      refine lv_iconst (v := (0 : Int32)) hx hb dX9_roofs_17 (by decide) ?_
      refine lv_istore (lv' := [(4, .int (0 : Int32)), (0, .ref q_t), (1, .int a1), (2, .int a2), (3, .int a3)]) hx hb dX9_roofs_18 hl (by decide) rfl (fun ls hl => ?_)
      refine lv_bipush (v := (100 : Int32)) hx hb dX9_roofs_20 (by decide) ?_
      refine lv_iload_n hx hb dX9_roofs_22 rfl (lv_at hl 2 rfl) ?_
      refine lv_imul hx hb dX9_roofs_23 ?_
      refine lv_topi (fun v5_15 ev5_15 => ?_)
      have h := h v5_15 ev5_15
      refine lv_istore (lv' := [(5, .int v5_15), (4, .int (0 : Int32)), (0, .ref q_t), (1, .int a1), (2, .int a2), (3, .int a3)]) hx hb dX9_roofs_24 hl (by decide) rfl (fun ls hl => ?_)
      obtain ⟨n, h⟩ := h
      exact lp26 t_highs t_kind t_high t_near a1 a2 a3 n (0 : Int32) v5_15 _ _ hP hD hS _ (lv_sub hl [2, 3, 4, 5, 1, 0] rfl) h
    · have h := h.1 c_
      refine lv_iconst (v := (-1 : Int32)) hx hb dX9_roofs_15 (by decide) ?_
      exact W.iret (v := (-1 : Int32)) hx hb hr (fun t ht hW => ⟨⟨(-1 : Int32), (t_highs, t_kind, t_high, t_near), rfl, h, by rw [ht]; exact hP, hD⟩, hS.F ht⟩) hS.2.2 dX9_roofs_16
set_option maxHeartbeats 4000000 in
set_option maxRecDepth 100000 in
theorem c_X9_findGrid (l : Launch) (D : va_G) (cy : Nat → ClassId) (q_t_lanes q_t_sizes q_t_items q_t_spare q_t_many q_t_px q_t_py q_t_pz q_t_strip q_t_kind q_t_byHand q_t_round q_t_lost q_t_shifts q_t_matrix q_t_right q_t_found q_t_high q_t_near q_t_cells q_t_part q_t_before q_t_tape q_t_what q_t_numbers q_t : Nat) (t_highs : Int32) (t_taped : Int32) (t_at : Int32) (t_fault : Int32) (t_steps : Int32) (t_cells : Nat → Int32) (t_many : Nat → Int32) (t_px : Nat → Int32) (t_py : Nat → Int32) (t_pz : Nat → Int32) (t_strip : Nat → Int32) (t_shifts : Nat → Int32) (t_kind : Nat → Int32) (a1 : Int32) (sz : Nat) (Q : (Nat → Int32) → Prop) (h : wp_X9_findGrid t_cells t_many t_px t_py t_pz t_strip t_shifts t_kind a1 Q) : Met l yX9_findGrid wsX9_findGrid ({ frames := 1, cells := 0, slots := 0, locals := 22 } : Room) (py_Pw ([.ref q_t, .int a1] : List Value) D cy [(q_t, .inr (9, [.ref q_t_lanes, .ref q_t_sizes, .ref q_t_items, .ref q_t_spare, .ref q_t_many, .ref q_t_px, .ref q_t_py, .ref q_t_pz, .ref q_t_strip, .ref q_t_kind, .ref q_t_byHand, .ref q_t_round, .ref q_t_lost, .ref q_t_shifts, .ref q_t_matrix, .ref q_t_right, .ref q_t_found, .ref q_t_high, .int t_highs, .ref q_t_near, .ref q_t_cells, .ref q_t_part, .ref q_t_before, .ref q_t_tape, .int t_taped, .int t_at, .int t_fault, .int t_steps, .ref q_t_what, .ref q_t_numbers])), (q_t_cells, .inl (cy 0, (256, .inl t_cells))), (q_t_many, .inl (cy 0, (2, .inl t_many))), (q_t_px, .inl (cy 0, (200, .inl t_px))), (q_t_py, .inl (cy 0, (200, .inl t_py))), (q_t_pz, .inl (cy 0, (200, .inl t_pz))), (q_t_strip, .inl (cy 0, (200, .inl t_strip))), (q_t_shifts, .inl (cy 0, (8, .inl t_shifts))), (q_t_kind, .inl (cy 0, (200, .inl t_kind)))] sz) (va_Qv (fun (u : (Nat → Int32)) => Q u) (py_B D (fun (u : (Nat → Int32)) => [(q_t, .inr (9, [.ref q_t_lanes, .ref q_t_sizes, .ref q_t_items, .ref q_t_spare, .ref q_t_many, .ref q_t_px, .ref q_t_py, .ref q_t_pz, .ref q_t_strip, .ref q_t_kind, .ref q_t_byHand, .ref q_t_round, .ref q_t_lost, .ref q_t_shifts, .ref q_t_matrix, .ref q_t_right, .ref q_t_found, .ref q_t_high, .int t_highs, .ref q_t_near, .ref q_t_cells, .ref q_t_part, .ref q_t_before, .ref q_t_tape, .int t_taped, .int t_at, .int t_fault, .int t_steps, .ref q_t_what, .ref q_t_numbers])), (q_t_cells, .inl (cy 0, (256, .inl u))), (q_t_many, .inl (cy 0, (2, .inl t_many))), (q_t_px, .inl (cy 0, (200, .inl t_px))), (q_t_py, .inl (cy 0, (200, .inl t_py))), (q_t_pz, .inl (cy 0, (200, .inl t_pz))), (q_t_strip, .inl (cy 0, (200, .inl t_strip))), (q_t_shifts, .inl (cy 0, (8, .inl t_shifts))), (q_t_kind, .inl (cy 0, (200, .inl t_kind)))]) (va_A [(q_t, .inr (9, [.ref q_t_lanes, .ref q_t_sizes, .ref q_t_items, .ref q_t_spare, .ref q_t_many, .ref q_t_px, .ref q_t_py, .ref q_t_pz, .ref q_t_strip, .ref q_t_kind, .ref q_t_byHand, .ref q_t_round, .ref q_t_lost, .ref q_t_shifts, .ref q_t_matrix, .ref q_t_right, .ref q_t_found, .ref q_t_high, .int t_highs, .ref q_t_near, .ref q_t_cells, .ref q_t_part, .ref q_t_before, .ref q_t_tape, .int t_taped, .int t_at, .int t_fault, .int t_steps, .ref q_t_what, .ref q_t_numbers])), (q_t_cells, .inl (cy 0, (256, .inl t_cells))), (q_t_many, .inl (cy 0, (2, .inl t_many))), (q_t_px, .inl (cy 0, (200, .inl t_px))), (q_t_py, .inl (cy 0, (200, .inl t_py))), (q_t_pz, .inl (cy 0, (200, .inl t_pz))), (q_t_strip, .inl (cy 0, (200, .inl t_strip))), (q_t_shifts, .inl (cy 0, (8, .inl t_shifts))), (q_t_kind, .inl (cy 0, (200, .inl t_kind)))] sz)) (va_A [(q_t, .inr (9, [.ref q_t_lanes, .ref q_t_sizes, .ref q_t_items, .ref q_t_spare, .ref q_t_many, .ref q_t_px, .ref q_t_py, .ref q_t_pz, .ref q_t_strip, .ref q_t_kind, .ref q_t_byHand, .ref q_t_round, .ref q_t_lost, .ref q_t_shifts, .ref q_t_matrix, .ref q_t_right, .ref q_t_found, .ref q_t_high, .int t_highs, .ref q_t_near, .ref q_t_cells, .ref q_t_part, .ref q_t_before, .ref q_t_tape, .int t_taped, .int t_at, .int t_fault, .int t_steps, .ref q_t_what, .ref q_t_numbers])), (q_t_cells, .inl (cy 0, (256, .inl t_cells))), (q_t_many, .inl (cy 0, (2, .inl t_many))), (q_t_px, .inl (cy 0, (200, .inl t_px))), (q_t_py, .inl (cy 0, (200, .inl t_py))), (q_t_pz, .inl (cy 0, (200, .inl t_pz))), (q_t_strip, .inl (cy 0, (200, .inl t_strip))), (q_t_shifts, .inl (cy 0, (8, .inl t_shifts))), (q_t_kind, .inl (cy 0, (200, .inl t_kind)))] sz)) 0 0 (va_A [(q_t, .inr (9, [.ref q_t_lanes, .ref q_t_sizes, .ref q_t_items, .ref q_t_spare, .ref q_t_many, .ref q_t_px, .ref q_t_py, .ref q_t_pz, .ref q_t_strip, .ref q_t_kind, .ref q_t_byHand, .ref q_t_round, .ref q_t_lost, .ref q_t_shifts, .ref q_t_matrix, .ref q_t_right, .ref q_t_found, .ref q_t_high, .int t_highs, .ref q_t_near, .ref q_t_cells, .ref q_t_part, .ref q_t_before, .ref q_t_tape, .int t_taped, .int t_at, .int t_fault, .int t_steps, .ref q_t_what, .ref q_t_numbers])), (q_t_cells, .inl (cy 0, (256, .inl t_cells))), (q_t_many, .inl (cy 0, (2, .inl t_many))), (q_t_px, .inl (cy 0, (200, .inl t_px))), (q_t_py, .inl (cy 0, (200, .inl t_py))), (q_t_pz, .inl (cy 0, (200, .inl t_pz))), (q_t_strip, .inl (cy 0, (200, .inl t_strip))), (q_t_shifts, .inl (cy 0, (8, .inl t_shifts))), (q_t_kind, .inl (cy 0, (200, .inl t_kind)))] sz) := by
  refine Met.ofW (cc := cX9_findGrid) (maxL := 5) (ret := none) (by decide) rfl ?_
  intro p e s m args below meth c s₁ B hml hv
  obtain ⟨rfl, hsz, hP, hKK, hD0⟩ := hv
  have hK := hKK.1
  have hN := hKK.2
  have hx := B.exec
  have hb := B.bytes
  have hr := B.returns
  have hts := atoms_spec (ws := wsX9_findGrid) B.pre
  have hown : s.vm.findClass RX9 = some m.cls := findClass_of_methodNamed B.named
  have hlocks := B.notSynchronized
  have hi_X9 : ∀ w ∈ wsX90, w ∈ wsX9_findGrid := fun w h => List.mem_cons_of_mem _ (List.mem_append_right _ (h))
  subst hsz
  have hD := hD0.self (sz := s.heap.size)
  generalize hAe : va_A [(q_t, .inr (9, [.ref q_t_lanes, .ref q_t_sizes, .ref q_t_items, .ref q_t_spare, .ref q_t_many, .ref q_t_px, .ref q_t_py, .ref q_t_pz, .ref q_t_strip, .ref q_t_kind, .ref q_t_byHand, .ref q_t_round, .ref q_t_lost, .ref q_t_shifts, .ref q_t_matrix, .ref q_t_right, .ref q_t_found, .ref q_t_high, .int t_highs, .ref q_t_near, .ref q_t_cells, .ref q_t_part, .ref q_t_before, .ref q_t_tape, .int t_taped, .int t_at, .int t_fault, .int t_steps, .ref q_t_what, .ref q_t_numbers])), (q_t_cells, .inl (cy 0, (256, .inl t_cells))), (q_t_many, .inl (cy 0, (2, .inl t_many))), (q_t_px, .inl (cy 0, (200, .inl t_px))), (q_t_py, .inl (cy 0, (200, .inl t_py))), (q_t_pz, .inl (cy 0, (200, .inl t_pz))), (q_t_strip, .inl (cy 0, (200, .inl t_strip))), (q_t_shifts, .inl (cy 0, (8, .inl t_shifts))), (q_t_kind, .inl (cy 0, (200, .inl t_kind)))] s.heap.size = A at hD ⊢
  have hA : ∀ q : Nat, s.heap.size ≤ q → A q := fun q h => by rw [← hAe]; exact Or.inr h
  have hS : va_S A s.heap s.heap [] := va_S.rf
  have hl := lv_entry ([.ref q_t, .int a1] : List Value) (n := 5) (Nat.le_of_ble_eq_true rfl)
  rw [lg_entry_eq]
  generalize (lg_sl ([.ref q_t, .int a1] : List Value) ++ List.replicate (5 - (lg_sl ([.ref q_t, .int a1] : List Value)).length) Slot.unset).toArray = ls at hl ⊢
  have hl : lv_has ls 5 [(0, .ref q_t), (1, .int a1)] := hl
  unfold wp_X9_findGrid at h
  have j23 : ∀ (t_cells : Nat → Int32) (v1 : Int32) (H : Heap) (locs : List Loc), va_P D vwCl [(q_t, .inr (9, [.ref q_t_lanes, .ref q_t_sizes, .ref q_t_items, .ref q_t_spare, .ref q_t_many, .ref q_t_px, .ref q_t_py, .ref q_t_pz, .ref q_t_strip, .ref q_t_kind, .ref q_t_byHand, .ref q_t_round, .ref q_t_lost, .ref q_t_shifts, .ref q_t_matrix, .ref q_t_right, .ref q_t_found, .ref q_t_high, .int t_highs, .ref q_t_near, .ref q_t_cells, .ref q_t_part, .ref q_t_before, .ref q_t_tape, .int t_taped, .int t_at, .int t_fault, .int t_steps, .ref q_t_what, .ref q_t_numbers])), (q_t_cells, .inl (cy 0, (256, .inl t_cells))), (q_t_many, .inl (cy 0, (2, .inl t_many))), (q_t_px, .inl (cy 0, (200, .inl t_px))), (q_t_py, .inl (cy 0, (200, .inl t_py))), (q_t_pz, .inl (cy 0, (200, .inl t_pz))), (q_t_strip, .inl (cy 0, (200, .inl t_strip))), (q_t_shifts, .inl (cy 0, (8, .inl t_shifts))), (q_t_kind, .inl (cy 0, (200, .inl t_kind)))] H → va_D A [(q_t, .inr (9, [.ref q_t_lanes, .ref q_t_sizes, .ref q_t_items, .ref q_t_spare, .ref q_t_many, .ref q_t_px, .ref q_t_py, .ref q_t_pz, .ref q_t_strip, .ref q_t_kind, .ref q_t_byHand, .ref q_t_round, .ref q_t_lost, .ref q_t_shifts, .ref q_t_matrix, .ref q_t_right, .ref q_t_found, .ref q_t_high, .int t_highs, .ref q_t_near, .ref q_t_cells, .ref q_t_part, .ref q_t_before, .ref q_t_tape, .int t_taped, .int t_at, .int t_fault, .int t_steps, .ref q_t_what, .ref q_t_numbers])), (q_t_cells, .inl (cy 0, (256, .inl t_cells))), (q_t_many, .inl (cy 0, (2, .inl t_many))), (q_t_px, .inl (cy 0, (200, .inl t_px))), (q_t_py, .inl (cy 0, (200, .inl t_py))), (q_t_pz, .inl (cy 0, (200, .inl t_pz))), (q_t_strip, .inl (cy 0, (200, .inl t_strip))), (q_t_shifts, .inl (cy 0, (8, .inl t_shifts))), (q_t_kind, .inl (cy 0, (200, .inl t_kind)))] → va_S A s.heap H locs → ∀ (ls : Array Slot), lv_has ls 5 [(0, .ref q_t), (1, .int v1)] → wp_X9_findGrid_b23 Q t_many t_px t_py t_pz t_strip t_shifts t_kind t_cells v1 → W p l e (headSpec wsX9_findGrid ({ frames := 1, cells := 0, slots := 0, locals := 22 } : Room)).room s m (([.ref q_t, .int a1] : List Value)).toArray below meth c H locs 0 0 (MQ below (va_Qv (fun (u : (Nat → Int32)) => Q u) (py_B D (fun (u : (Nat → Int32)) => [(q_t, .inr (9, [.ref q_t_lanes, .ref q_t_sizes, .ref q_t_items, .ref q_t_spare, .ref q_t_many, .ref q_t_px, .ref q_t_py, .ref q_t_pz, .ref q_t_strip, .ref q_t_kind, .ref q_t_byHand, .ref q_t_round, .ref q_t_lost, .ref q_t_shifts, .ref q_t_matrix, .ref q_t_right, .ref q_t_found, .ref q_t_high, .int t_highs, .ref q_t_near, .ref q_t_cells, .ref q_t_part, .ref q_t_before, .ref q_t_tape, .int t_taped, .int t_at, .int t_fault, .int t_steps, .ref q_t_what, .ref q_t_numbers])), (q_t_cells, .inl (cy 0, (256, .inl u))), (q_t_many, .inl (cy 0, (2, .inl t_many))), (q_t_px, .inl (cy 0, (200, .inl t_px))), (q_t_py, .inl (cy 0, (200, .inl t_py))), (q_t_pz, .inl (cy 0, (200, .inl t_pz))), (q_t_strip, .inl (cy 0, (200, .inl t_strip))), (q_t_shifts, .inl (cy 0, (8, .inl t_shifts))), (q_t_kind, .inl (cy 0, (200, .inl t_kind)))]) A) A) (([.ref q_t, .int a1] : List Value)).toArray s 0 0 A) (F0 m 23 ls []) := by
    intro t_cells v1 H locs hP hD hS ls hl h
    unfold wp_X9_findGrid_b23 at h
    have lp28 : ∀ (v1 : Int32) (n28 : Nat) (t_cells : Nat → Int32) (v2 : Int32) (H : Heap) (locs : List Loc), va_P D vwCl [(q_t, .inr (9, [.ref q_t_lanes, .ref q_t_sizes, .ref q_t_items, .ref q_t_spare, .ref q_t_many, .ref q_t_px, .ref q_t_py, .ref q_t_pz, .ref q_t_strip, .ref q_t_kind, .ref q_t_byHand, .ref q_t_round, .ref q_t_lost, .ref q_t_shifts, .ref q_t_matrix, .ref q_t_right, .ref q_t_found, .ref q_t_high, .int t_highs, .ref q_t_near, .ref q_t_cells, .ref q_t_part, .ref q_t_before, .ref q_t_tape, .int t_taped, .int t_at, .int t_fault, .int t_steps, .ref q_t_what, .ref q_t_numbers])), (q_t_cells, .inl (cy 0, (256, .inl t_cells))), (q_t_many, .inl (cy 0, (2, .inl t_many))), (q_t_px, .inl (cy 0, (200, .inl t_px))), (q_t_py, .inl (cy 0, (200, .inl t_py))), (q_t_pz, .inl (cy 0, (200, .inl t_pz))), (q_t_strip, .inl (cy 0, (200, .inl t_strip))), (q_t_shifts, .inl (cy 0, (8, .inl t_shifts))), (q_t_kind, .inl (cy 0, (200, .inl t_kind)))] H → va_D A [(q_t, .inr (9, [.ref q_t_lanes, .ref q_t_sizes, .ref q_t_items, .ref q_t_spare, .ref q_t_many, .ref q_t_px, .ref q_t_py, .ref q_t_pz, .ref q_t_strip, .ref q_t_kind, .ref q_t_byHand, .ref q_t_round, .ref q_t_lost, .ref q_t_shifts, .ref q_t_matrix, .ref q_t_right, .ref q_t_found, .ref q_t_high, .int t_highs, .ref q_t_near, .ref q_t_cells, .ref q_t_part, .ref q_t_before, .ref q_t_tape, .int t_taped, .int t_at, .int t_fault, .int t_steps, .ref q_t_what, .ref q_t_numbers])), (q_t_cells, .inl (cy 0, (256, .inl t_cells))), (q_t_many, .inl (cy 0, (2, .inl t_many))), (q_t_px, .inl (cy 0, (200, .inl t_px))), (q_t_py, .inl (cy 0, (200, .inl t_py))), (q_t_pz, .inl (cy 0, (200, .inl t_pz))), (q_t_strip, .inl (cy 0, (200, .inl t_strip))), (q_t_shifts, .inl (cy 0, (8, .inl t_shifts))), (q_t_kind, .inl (cy 0, (200, .inl t_kind)))] → va_S A s.heap H locs → ∀ (ls : Array Slot), lv_has ls 5 [(0, .ref q_t), (1, .int v1), (2, .int v2)] → wp_X9_findGrid_b28 Q t_many t_px t_py t_pz t_strip t_shifts t_kind v1 n28 t_cells v2 → W p l e (headSpec wsX9_findGrid ({ frames := 1, cells := 0, slots := 0, locals := 22 } : Room)).room s m (([.ref q_t, .int a1] : List Value)).toArray below meth c H locs 0 0 (MQ below (va_Qv (fun (u : (Nat → Int32)) => Q u) (py_B D (fun (u : (Nat → Int32)) => [(q_t, .inr (9, [.ref q_t_lanes, .ref q_t_sizes, .ref q_t_items, .ref q_t_spare, .ref q_t_many, .ref q_t_px, .ref q_t_py, .ref q_t_pz, .ref q_t_strip, .ref q_t_kind, .ref q_t_byHand, .ref q_t_round, .ref q_t_lost, .ref q_t_shifts, .ref q_t_matrix, .ref q_t_right, .ref q_t_found, .ref q_t_high, .int t_highs, .ref q_t_near, .ref q_t_cells, .ref q_t_part, .ref q_t_before, .ref q_t_tape, .int t_taped, .int t_at, .int t_fault, .int t_steps, .ref q_t_what, .ref q_t_numbers])), (q_t_cells, .inl (cy 0, (256, .inl u))), (q_t_many, .inl (cy 0, (2, .inl t_many))), (q_t_px, .inl (cy 0, (200, .inl t_px))), (q_t_py, .inl (cy 0, (200, .inl t_py))), (q_t_pz, .inl (cy 0, (200, .inl t_pz))), (q_t_strip, .inl (cy 0, (200, .inl t_strip))), (q_t_shifts, .inl (cy 0, (8, .inl t_shifts))), (q_t_kind, .inl (cy 0, (200, .inl t_kind)))]) A) A) (([.ref q_t, .int a1] : List Value)).toArray s 0 0 A) (F0 m 28 ls []) := by
      intro v1 n28
      induction n28 with
      | zero => intro t_cells v2 H locs hP hD hS ls hl h; exact False.elim h
      | succ n28 ih28 =>
        intro t_cells v2 H locs hP hD hS ls hl h
        have h : wp_X9_findGrid_b28_f (wp_X9_findGrid_b28 Q t_many t_px t_py t_pz t_strip t_shifts t_kind v1 n28) Q t_many t_px t_py t_pz t_strip t_shifts t_kind v1 t_cells v2 := h
        unfold wp_X9_findGrid_b28_f at h
        refine lv_iload_n hx hb dX9_findGrid_28 rfl (lv_at hl 2 rfl) ?_
        refine lv_aload_n hx hb dX9_findGrid_29 rfl (lv_at hl 0 rfl) ?_
        refine lv_iload_n hx hb dX9_findGrid_30 rfl (lv_at hl 1 rfl) ?_
        refine py_ci (py_rVp (As := [.int v1]) ⟨hx, hb, hml, hown, hts⟩ hKK hP [0, 2] rfl 0 9 rfl rfl (c_X9_endOf l D cy q_t_lanes q_t_sizes q_t_items q_t_spare q_t_many q_t_px q_t_py q_t_pz q_t_strip q_t_kind q_t_byHand q_t_round q_t_lost q_t_shifts q_t_matrix q_t_right q_t_found q_t_high q_t_near q_t_cells q_t_part q_t_before q_t_tape q_t_what q_t_numbers q_t t_highs t_taped t_at t_fault t_steps t_many v1 _ h) (cwV 1 hts gX9_findGrid_X9_endOf rfl rfl rfl cdv_X9_endOf ⟨Nat.le_of_ble_eq_true rfl, Nat.le_of_ble_eq_true rfl⟩) rfl hl.1 rfl (Nat.le_of_ble_eq_true rfl) ⟨Nat.zero_le _, Nat.zero_le _⟩ dX9_findGrid_31) (fun r_1 h => ?_)
        refine lv_icmp_ge (tgt := 110) hx hb dX9_findGrid_34 (by decide) (fun c_ => ?_) (fun c_ => ?_)
        · have h := h.1 c_
          exact W.vret hx hb hr (fun t ht hW => ⟨⟨t_cells, rfl, h, by rw [ht]; exact hP, hD⟩, hS.F ht⟩) hS.2.2 dX9_findGrid_110
        · have h := h.2 c_
          have j103 : ∀ (t_cells : Nat → Int32) (v2 : Int32) (s1 : Int32) (s2 : Int32) (H : Heap) (locs : List Loc), va_P D vwCl [(q_t, .inr (9, [.ref q_t_lanes, .ref q_t_sizes, .ref q_t_items, .ref q_t_spare, .ref q_t_many, .ref q_t_px, .ref q_t_py, .ref q_t_pz, .ref q_t_strip, .ref q_t_kind, .ref q_t_byHand, .ref q_t_round, .ref q_t_lost, .ref q_t_shifts, .ref q_t_matrix, .ref q_t_right, .ref q_t_found, .ref q_t_high, .int t_highs, .ref q_t_near, .ref q_t_cells, .ref q_t_part, .ref q_t_before, .ref q_t_tape, .int t_taped, .int t_at, .int t_fault, .int t_steps, .ref q_t_what, .ref q_t_numbers])), (q_t_cells, .inl (cy 0, (256, .inl t_cells))), (q_t_many, .inl (cy 0, (2, .inl t_many))), (q_t_px, .inl (cy 0, (200, .inl t_px))), (q_t_py, .inl (cy 0, (200, .inl t_py))), (q_t_pz, .inl (cy 0, (200, .inl t_pz))), (q_t_strip, .inl (cy 0, (200, .inl t_strip))), (q_t_shifts, .inl (cy 0, (8, .inl t_shifts))), (q_t_kind, .inl (cy 0, (200, .inl t_kind)))] H → va_D A [(q_t, .inr (9, [.ref q_t_lanes, .ref q_t_sizes, .ref q_t_items, .ref q_t_spare, .ref q_t_many, .ref q_t_px, .ref q_t_py, .ref q_t_pz, .ref q_t_strip, .ref q_t_kind, .ref q_t_byHand, .ref q_t_round, .ref q_t_lost, .ref q_t_shifts, .ref q_t_matrix, .ref q_t_right, .ref q_t_found, .ref q_t_high, .int t_highs, .ref q_t_near, .ref q_t_cells, .ref q_t_part, .ref q_t_before, .ref q_t_tape, .int t_taped, .int t_at, .int t_fault, .int t_steps, .ref q_t_what, .ref q_t_numbers])), (q_t_cells, .inl (cy 0, (256, .inl t_cells))), (q_t_many, .inl (cy 0, (2, .inl t_many))), (q_t_px, .inl (cy 0, (200, .inl t_px))), (q_t_py, .inl (cy 0, (200, .inl t_py))), (q_t_pz, .inl (cy 0, (200, .inl t_pz))), (q_t_strip, .inl (cy 0, (200, .inl t_strip))), (q_t_shifts, .inl (cy 0, (8, .inl t_shifts))), (q_t_kind, .inl (cy 0, (200, .inl t_kind)))] → va_S A s.heap H locs → ∀ (ls : Array Slot), lv_has ls 5 [(0, .ref q_t), (1, .int v1), (2, .int v2)] → wp_X9_findGrid_b103 (wp_X9_findGrid_b28 Q t_many t_px t_py t_pz t_strip t_shifts t_kind v1 n28) t_cells v2 s1 s2 → W p l e (headSpec wsX9_findGrid ({ frames := 1, cells := 0, slots := 0, locals := 22 } : Room)).room s m (([.ref q_t, .int a1] : List Value)).toArray below meth c H locs 0 0 (MQ below (va_Qv (fun (u : (Nat → Int32)) => Q u) (py_B D (fun (u : (Nat → Int32)) => [(q_t, .inr (9, [.ref q_t_lanes, .ref q_t_sizes, .ref q_t_items, .ref q_t_spare, .ref q_t_many, .ref q_t_px, .ref q_t_py, .ref q_t_pz, .ref q_t_strip, .ref q_t_kind, .ref q_t_byHand, .ref q_t_round, .ref q_t_lost, .ref q_t_shifts, .ref q_t_matrix, .ref q_t_right, .ref q_t_found, .ref q_t_high, .int t_highs, .ref q_t_near, .ref q_t_cells, .ref q_t_part, .ref q_t_before, .ref q_t_tape, .int t_taped, .int t_at, .int t_fault, .int t_steps, .ref q_t_what, .ref q_t_numbers])), (q_t_cells, .inl (cy 0, (256, .inl u))), (q_t_many, .inl (cy 0, (2, .inl t_many))), (q_t_px, .inl (cy 0, (200, .inl t_px))), (q_t_py, .inl (cy 0, (200, .inl t_py))), (q_t_pz, .inl (cy 0, (200, .inl t_pz))), (q_t_strip, .inl (cy 0, (200, .inl t_strip))), (q_t_shifts, .inl (cy 0, (8, .inl t_shifts))), (q_t_kind, .inl (cy 0, (200, .inl t_kind)))]) A) A) (([.ref q_t, .int a1] : List Value)).toArray s 0 0 A) (F0 m 103 ls [.int s2, .int s1, .ref q_t_cells]) := by
            intro t_cells v2 s1 s2 H locs hP hD hS ls hl h
            unfold wp_X9_findGrid_b103 at h
            refine py_iast hx hb hK hP hD hS 1 0 rfl rfl (k := s1.toNatClampNeg) rfl h.1 dX9_findGrid_103 (fun H locs hP hD hS => ?_)
            have h := h.2
            have hP : va_P D vwCl [(q_t, .inr (9, [.ref q_t_lanes, .ref q_t_sizes, .ref q_t_items, .ref q_t_spare, .ref q_t_many, .ref q_t_px, .ref q_t_py, .ref q_t_pz, .ref q_t_strip, .ref q_t_kind, .ref q_t_byHand, .ref q_t_round, .ref q_t_lost, .ref q_t_shifts, .ref q_t_matrix, .ref q_t_right, .ref q_t_found, .ref q_t_high, .int t_highs, .ref q_t_near, .ref q_t_cells, .ref q_t_part, .ref q_t_before, .ref q_t_tape, .int t_taped, .int t_at, .int t_fault, .int t_steps, .ref q_t_what, .ref q_t_numbers])), (q_t_cells, .inl (cy 0, (256, .inl (upd t_cells s1.toNatClampNeg s2)))), (q_t_many, .inl (cy 0, (2, .inl t_many))), (q_t_px, .inl (cy 0, (200, .inl t_px))), (q_t_py, .inl (cy 0, (200, .inl t_py))), (q_t_pz, .inl (cy 0, (200, .inl t_pz))), (q_t_strip, .inl (cy 0, (200, .inl t_strip))), (q_t_shifts, .inl (cy 0, (8, .inl t_shifts))), (q_t_kind, .inl (cy 0, (200, .inl t_kind)))] H := hP
            have hD : va_D A [(q_t, .inr (9, [.ref q_t_lanes, .ref q_t_sizes, .ref q_t_items, .ref q_t_spare, .ref q_t_many, .ref q_t_px, .ref q_t_py, .ref q_t_pz, .ref q_t_strip, .ref q_t_kind, .ref q_t_byHand, .ref q_t_round, .ref q_t_lost, .ref q_t_shifts, .ref q_t_matrix, .ref q_t_right, .ref q_t_found, .ref q_t_high, .int t_highs, .ref q_t_near, .ref q_t_cells, .ref q_t_part, .ref q_t_before, .ref q_t_tape, .int t_taped, .int t_at, .int t_fault, .int t_steps, .ref q_t_what, .ref q_t_numbers])), (q_t_cells, .inl (cy 0, (256, .inl (upd t_cells s1.toNatClampNeg s2)))), (q_t_many, .inl (cy 0, (2, .inl t_many))), (q_t_px, .inl (cy 0, (200, .inl t_px))), (q_t_py, .inl (cy 0, (200, .inl t_py))), (q_t_pz, .inl (cy 0, (200, .inl t_pz))), (q_t_strip, .inl (cy 0, (200, .inl t_strip))), (q_t_shifts, .inl (cy 0, (8, .inl t_shifts))), (q_t_kind, .inl (cy 0, (200, .inl t_kind)))] := hD
            obtain ⟨v2_2, ev2_2⟩ : ∃ y : Int32, y = v2 + (1 : Int32) := ⟨_, rfl⟩
            have h := h v2_2 ev2_2
            refine lv_iinc (v := v2_2) (lv' := [(2, .int v2_2), (0, .ref q_t), (1, .int v1)]) hx hb dX9_findGrid_104 hl (k := 2) rfl (by rw [ev2_2]; rfl) (by decide) rfl (fun ls hl => ?_)
            refine lv_goto (tgt := 28) hx hb dX9_findGrid_107 (by decide) ?_
            exact ih28 (upd t_cells s1.toNatClampNeg s2) v2_2 _ _ hP hD hS _ (lv_sub hl [1, 2, 0] rfl) h
          have j97 : ∀ (t_cells : Nat → Int32) (v2 : Int32) (v3 : Int32) (s1 : Int32) (H : Heap) (locs : List Loc), va_P D vwCl [(q_t, .inr (9, [.ref q_t_lanes, .ref q_t_sizes, .ref q_t_items, .ref q_t_spare, .ref q_t_many, .ref q_t_px, .ref q_t_py, .ref q_t_pz, .ref q_t_strip, .ref q_t_kind, .ref q_t_byHand, .ref q_t_round, .ref q_t_lost, .ref q_t_shifts, .ref q_t_matrix, .ref q_t_right, .ref q_t_found, .ref q_t_high, .int t_highs, .ref q_t_near, .ref q_t_cells, .ref q_t_part, .ref q_t_before, .ref q_t_tape, .int t_taped, .int t_at, .int t_fault, .int t_steps, .ref q_t_what, .ref q_t_numbers])), (q_t_cells, .inl (cy 0, (256, .inl t_cells))), (q_t_many, .inl (cy 0, (2, .inl t_many))), (q_t_px, .inl (cy 0, (200, .inl t_px))), (q_t_py, .inl (cy 0, (200, .inl t_py))), (q_t_pz, .inl (cy 0, (200, .inl t_pz))), (q_t_strip, .inl (cy 0, (200, .inl t_strip))), (q_t_shifts, .inl (cy 0, (8, .inl t_shifts))), (q_t_kind, .inl (cy 0, (200, .inl t_kind)))] H → va_D A [(q_t, .inr (9, [.ref q_t_lanes, .ref q_t_sizes, .ref q_t_items, .ref q_t_spare, .ref q_t_many, .ref q_t_px, .ref q_t_py, .ref q_t_pz, .ref q_t_strip, .ref q_t_kind, .ref q_t_byHand, .ref q_t_round, .ref q_t_lost, .ref q_t_shifts, .ref q_t_matrix, .ref q_t_right, .ref q_t_found, .ref q_t_high, .int t_highs, .ref q_t_near, .ref q_t_cells, .ref q_t_part, .ref q_t_before, .ref q_t_tape, .int t_taped, .int t_at, .int t_fault, .int t_steps, .ref q_t_what, .ref q_t_numbers])), (q_t_cells, .inl (cy 0, (256, .inl t_cells))), (q_t_many, .inl (cy 0, (2, .inl t_many))), (q_t_px, .inl (cy 0, (200, .inl t_px))), (q_t_py, .inl (cy 0, (200, .inl t_py))), (q_t_pz, .inl (cy 0, (200, .inl t_pz))), (q_t_strip, .inl (cy 0, (200, .inl t_strip))), (q_t_shifts, .inl (cy 0, (8, .inl t_shifts))), (q_t_kind, .inl (cy 0, (200, .inl t_kind)))] → va_S A s.heap H locs → ∀ (ls : Array Slot), lv_has ls 5 [(0, .ref q_t), (1, .int v1), (2, .int v2), (3, .int v3)] → wp_X9_findGrid_b97 (wp_X9_findGrid_b28 Q t_many t_px t_py t_pz t_strip t_shifts t_kind v1 n28) t_cells v2 v3 s1 → W p l e (headSpec wsX9_findGrid ({ frames := 1, cells := 0, slots := 0, locals := 22 } : Room)).room s m (([.ref q_t, .int a1] : List Value)).toArray below meth c H locs 0 0 (MQ below (va_Qv (fun (u : (Nat → Int32)) => Q u) (py_B D (fun (u : (Nat → Int32)) => [(q_t, .inr (9, [.ref q_t_lanes, .ref q_t_sizes, .ref q_t_items, .ref q_t_spare, .ref q_t_many, .ref q_t_px, .ref q_t_py, .ref q_t_pz, .ref q_t_strip, .ref q_t_kind, .ref q_t_byHand, .ref q_t_round, .ref q_t_lost, .ref q_t_shifts, .ref q_t_matrix, .ref q_t_right, .ref q_t_found, .ref q_t_high, .int t_highs, .ref q_t_near, .ref q_t_cells, .ref q_t_part, .ref q_t_before, .ref q_t_tape, .int t_taped, .int t_at, .int t_fault, .int t_steps, .ref q_t_what, .ref q_t_numbers])), (q_t_cells, .inl (cy 0, (256, .inl u))), (q_t_many, .inl (cy 0, (2, .inl t_many))), (q_t_px, .inl (cy 0, (200, .inl t_px))), (q_t_py, .inl (cy 0, (200, .inl t_py))), (q_t_pz, .inl (cy 0, (200, .inl t_pz))), (q_t_strip, .inl (cy 0, (200, .inl t_strip))), (q_t_shifts, .inl (cy 0, (8, .inl t_shifts))), (q_t_kind, .inl (cy 0, (200, .inl t_kind)))]) A) A) (([.ref q_t, .int a1] : List Value)).toArray s 0 0 A) (F0 m 97 ls [.int s1, .ref q_t_cells]) := by
            intro t_cells v2 v3 s1 H locs hP hD hS ls hl h
            unfold wp_X9_findGrid_b97 at h
            refine lv_aload_n hx hb dX9_findGrid_97 rfl (lv_at hl 0 rfl) ?_
            refine va_get (D := D) (ci := 9) (C := RX9) (T := TX9) (N := 30) hx hb hts hi_X9 hown hK hP 0 rfl rfl 20 (by decide) (hts (.fieldLink RX9 69 "RayGroundModel" "cells" "[I") (List.mem_of_getElem? (i := 1) rfl)) (fun _ h9 => h9) rfl dX9_findGrid_98 ?_
            refine lv_iload_n hx hb dX9_findGrid_101 rfl (lv_at hl 3 rfl) ?_
            refine py_iald hx hb hK hP 1 0 rfl rfl (k := v3.toNatClampNeg) rfl h.1 dX9_findGrid_102 ?_
            have h := h.2
            exact j103 t_cells v2 s1 (t_cells v3.toNatClampNeg) _ _ hP hD hS _ (lv_sub hl [0, 1, 2] rfl) h
          refine lv_aload_n hx hb dX9_findGrid_37 rfl (lv_at hl 0 rfl) ?_
          refine va_get (D := D) (ci := 9) (C := RX9) (T := TX9) (N := 30) hx hb hts hi_X9 hown hK hP 0 rfl rfl 5 (by decide) (hts (.fieldLink RX9 25 "RayGroundModel" "px" "[I") (List.mem_of_getElem? (i := 3) rfl)) (fun _ h9 => h9) rfl dX9_findGrid_38 ?_
          refine lv_iload_n hx hb dX9_findGrid_41 rfl (lv_at hl 2 rfl) ?_
          refine py_iald hx hb hK hP 3 0 rfl rfl (k := v2.toNatClampNeg) rfl h.1 dX9_findGrid_42 ?_
          have h := h.2
          refine lv_iconst (v := (4 : Int32)) hx hb dX9_findGrid_43 (by decide) ?_
          refine lv_idiv hx hb dX9_findGrid_44 (by decide) ?_
          refine lv_bipush (v := (16 : Int32)) hx hb dX9_findGrid_45 (by decide) ?_
          refine lv_aload_n hx hb dX9_findGrid_47 rfl (lv_at hl 0 rfl) ?_
          refine va_get (D := D) (ci := 9) (C := RX9) (T := TX9) (N := 30) hx hb hts hi_X9 hown hK hP 0 rfl rfl 6 (by decide) (hts (.fieldLink RX9 28 "RayGroundModel" "py" "[I") (List.mem_of_getElem? (i := 4) rfl)) (fun _ h9 => h9) rfl dX9_findGrid_48 ?_
          refine lv_iload_n hx hb dX9_findGrid_51 rfl (lv_at hl 2 rfl) ?_
          refine py_iald hx hb hK hP 4 0 rfl rfl (k := v2.toNatClampNeg) rfl h.1 dX9_findGrid_52 ?_
          have h := h.2
          refine lv_iconst (v := (4 : Int32)) hx hb dX9_findGrid_53 (by decide) ?_
          refine lv_idiv hx hb dX9_findGrid_54 (by decide) ?_
          refine lv_imul hx hb dX9_findGrid_55 ?_
          refine lv_iadd hx hb dX9_findGrid_56 ?_
          refine lv_topi (fun v3_3 ev3_3 => ?_)
          have h := h v3_3 ev3_3
          refine lv_istore_n (lv' := [(3, .int v3_3), (0, .ref q_t), (1, .int v1), (2, .int v2)]) hx hb dX9_findGrid_57 rfl hl (by decide) rfl (fun ls hl => ?_)
          refine lv_aload_n hx hb dX9_findGrid_58 rfl (lv_at hl 1 rfl) ?_
          refine lv_iload_n hx hb dX9_findGrid_59 rfl (lv_at hl 2 rfl) ?_
          refine lv_iload_n hx hb dX9_findGrid_60 rfl (lv_at hl 3 rfl) ?_
          refine py_ci (py_rVp (As := [.int v1, .int v2]) ⟨hx, hb, hml, hown, hts⟩ hKK hP [0, 5, 6, 7] rfl 0 9 rfl rfl (c_X9_heightOf l D cy q_t_lanes q_t_sizes q_t_items q_t_spare q_t_many q_t_px q_t_py q_t_pz q_t_strip q_t_kind q_t_byHand q_t_round q_t_lost q_t_shifts q_t_matrix q_t_right q_t_found q_t_high q_t_near q_t_cells q_t_part q_t_before q_t_tape q_t_what q_t_numbers q_t t_highs t_taped t_at t_fault t_steps t_pz t_strip t_shifts v1 v2 _ h) (cwV 2 hts gX9_findGrid_X9_heightOf rfl rfl rfl cdv_X9_heightOf ⟨Nat.le_of_ble_eq_true rfl, Nat.le_of_ble_eq_true rfl⟩) rfl hl.1 rfl (Nat.le_of_ble_eq_true rfl) ⟨Nat.zero_le _, Nat.zero_le _⟩ dX9_findGrid_61) (fun r_4 h => ?_)
          refine lv_istore (lv' := [(4, .int r_4), (3, .int v3_3), (0, .ref q_t), (1, .int v1), (2, .int v2)]) hx hb dX9_findGrid_64 hl (by decide) rfl (fun ls hl => ?_)
          refine lv_aload_n hx hb dX9_findGrid_66 rfl (lv_at hl 2 rfl) ?_
          refine va_get (D := D) (ci := 9) (C := RX9) (T := TX9) (N := 30) hx hb hts hi_X9 hown hK hP 0 rfl rfl 20 (by decide) (hts (.fieldLink RX9 69 "RayGroundModel" "cells" "[I") (List.mem_of_getElem? (i := 1) rfl)) (fun _ h9 => h9) rfl dX9_findGrid_67 ?_
          refine lv_iload_n hx hb dX9_findGrid_70 rfl (lv_at hl 1 rfl) ?_
          refine lv_aload_n hx hb dX9_findGrid_71 rfl (lv_at hl 2 rfl) ?_
          refine va_get (D := D) (ci := 9) (C := RX9) (T := TX9) (N := 30) hx hb hts hi_X9 hown hK hP 0 rfl rfl 9 (by decide) (hts (.fieldLink RX9 37 "RayGroundModel" "kind" "[I") (List.mem_of_getElem? (i := 5) rfl)) (fun _ h9 => h9) rfl dX9_findGrid_72 ?_
          refine lv_iload_n hx hb dX9_findGrid_75 rfl (lv_at hl 4 rfl) ?_
          refine py_iald hx hb hK hP 8 0 rfl rfl (k := v2.toNatClampNeg) rfl h.1 dX9_findGrid_76 ?_
          have h := h.2
          refine lv_iconst (v := (1 : Int32)) hx hb dX9_findGrid_77 (by decide) ?_
          refine lv_icmp_ne (tgt := 97) hx hb dX9_findGrid_78 (by decide) (fun c_ => ?_) (fun c_ => ?_)
          · have h := h.2 c_
            exact j97 t_cells v2 v3_3 v3_3 _ _ hP hD hS _ (lv_sub hl [2, 3, 4, 1] rfl) h
          · have h := h.1 c_
            refine lv_iload hx hb dX9_findGrid_81 (lv_at hl 0 rfl) ?_
            refine lv_aload_n hx hb dX9_findGrid_83 rfl (lv_at hl 2 rfl) ?_
            refine va_get (D := D) (ci := 9) (C := RX9) (T := TX9) (N := 30) hx hb hts hi_X9 hown hK hP 0 rfl rfl 20 (by decide) (hts (.fieldLink RX9 69 "RayGroundModel" "cells" "[I") (List.mem_of_getElem? (i := 1) rfl)) (fun _ h9 => h9) rfl dX9_findGrid_84 ?_
            refine lv_iload_n hx hb dX9_findGrid_87 rfl (lv_at hl 1 rfl) ?_
            refine py_iald hx hb hK hP 1 0 rfl rfl (k := v3_3.toNatClampNeg) rfl h.1 dX9_findGrid_88 ?_
            have h := h.2
            refine lv_icmp_ge (tgt := 97) hx hb dX9_findGrid_89 (by decide) (fun c_ => ?_) (fun c_ => ?_)
            · have h := h.1 c_
              exact j97 t_cells v2 v3_3 v3_3 _ _ hP hD hS _ (lv_sub hl [2, 3, 4, 1] rfl) h
            · have h := h.2 c_
              refine lv_iload hx hb dX9_findGrid_92 (lv_at hl 0 rfl) ?_
              refine lv_goto (tgt := 103) hx hb dX9_findGrid_94 (by decide) ?_
              exact j103 t_cells v2 v3_3 r_4 _ _ hP hD hS _ (lv_sub hl [2, 3, 4] rfl) h
    refine lv_bipush (v := (100 : Int32)) hx hb dX9_findGrid_23 (by decide) ?_
    refine lv_iload_n hx hb dX9_findGrid_25 rfl (lv_at hl 1 rfl) ?_
    refine lv_imul hx hb dX9_findGrid_26 ?_
    refine lv_topi (fun v2_5 ev2_5 => ?_)
    have h := h v2_5 ev2_5
    refine lv_istore_n (lv' := [(2, .int v2_5), (0, .ref q_t), (1, .int v1)]) hx hb dX9_findGrid_27 rfl hl (by decide) rfl (fun ls hl => ?_)
    obtain ⟨n, h⟩ := h
    exact lp28 v1 n t_cells v2_5 _ _ hP hD hS _ (lv_sub hl [1, 2, 0] rfl) h
  have lp2 : ∀ (v1 : Int32) (n2 : Nat) (t_cells : Nat → Int32) (v2 : Int32) (H : Heap) (locs : List Loc), va_P D vwCl [(q_t, .inr (9, [.ref q_t_lanes, .ref q_t_sizes, .ref q_t_items, .ref q_t_spare, .ref q_t_many, .ref q_t_px, .ref q_t_py, .ref q_t_pz, .ref q_t_strip, .ref q_t_kind, .ref q_t_byHand, .ref q_t_round, .ref q_t_lost, .ref q_t_shifts, .ref q_t_matrix, .ref q_t_right, .ref q_t_found, .ref q_t_high, .int t_highs, .ref q_t_near, .ref q_t_cells, .ref q_t_part, .ref q_t_before, .ref q_t_tape, .int t_taped, .int t_at, .int t_fault, .int t_steps, .ref q_t_what, .ref q_t_numbers])), (q_t_cells, .inl (cy 0, (256, .inl t_cells))), (q_t_many, .inl (cy 0, (2, .inl t_many))), (q_t_px, .inl (cy 0, (200, .inl t_px))), (q_t_py, .inl (cy 0, (200, .inl t_py))), (q_t_pz, .inl (cy 0, (200, .inl t_pz))), (q_t_strip, .inl (cy 0, (200, .inl t_strip))), (q_t_shifts, .inl (cy 0, (8, .inl t_shifts))), (q_t_kind, .inl (cy 0, (200, .inl t_kind)))] H → va_D A [(q_t, .inr (9, [.ref q_t_lanes, .ref q_t_sizes, .ref q_t_items, .ref q_t_spare, .ref q_t_many, .ref q_t_px, .ref q_t_py, .ref q_t_pz, .ref q_t_strip, .ref q_t_kind, .ref q_t_byHand, .ref q_t_round, .ref q_t_lost, .ref q_t_shifts, .ref q_t_matrix, .ref q_t_right, .ref q_t_found, .ref q_t_high, .int t_highs, .ref q_t_near, .ref q_t_cells, .ref q_t_part, .ref q_t_before, .ref q_t_tape, .int t_taped, .int t_at, .int t_fault, .int t_steps, .ref q_t_what, .ref q_t_numbers])), (q_t_cells, .inl (cy 0, (256, .inl t_cells))), (q_t_many, .inl (cy 0, (2, .inl t_many))), (q_t_px, .inl (cy 0, (200, .inl t_px))), (q_t_py, .inl (cy 0, (200, .inl t_py))), (q_t_pz, .inl (cy 0, (200, .inl t_pz))), (q_t_strip, .inl (cy 0, (200, .inl t_strip))), (q_t_shifts, .inl (cy 0, (8, .inl t_shifts))), (q_t_kind, .inl (cy 0, (200, .inl t_kind)))] → va_S A s.heap H locs → ∀ (ls : Array Slot), lv_has ls 5 [(0, .ref q_t), (1, .int v1), (2, .int v2)] → wp_X9_findGrid_b2 (wp_X9_findGrid_b23 Q t_many t_px t_py t_pz t_strip t_shifts t_kind) v1 n2 t_cells v2 → W p l e (headSpec wsX9_findGrid ({ frames := 1, cells := 0, slots := 0, locals := 22 } : Room)).room s m (([.ref q_t, .int a1] : List Value)).toArray below meth c H locs 0 0 (MQ below (va_Qv (fun (u : (Nat → Int32)) => Q u) (py_B D (fun (u : (Nat → Int32)) => [(q_t, .inr (9, [.ref q_t_lanes, .ref q_t_sizes, .ref q_t_items, .ref q_t_spare, .ref q_t_many, .ref q_t_px, .ref q_t_py, .ref q_t_pz, .ref q_t_strip, .ref q_t_kind, .ref q_t_byHand, .ref q_t_round, .ref q_t_lost, .ref q_t_shifts, .ref q_t_matrix, .ref q_t_right, .ref q_t_found, .ref q_t_high, .int t_highs, .ref q_t_near, .ref q_t_cells, .ref q_t_part, .ref q_t_before, .ref q_t_tape, .int t_taped, .int t_at, .int t_fault, .int t_steps, .ref q_t_what, .ref q_t_numbers])), (q_t_cells, .inl (cy 0, (256, .inl u))), (q_t_many, .inl (cy 0, (2, .inl t_many))), (q_t_px, .inl (cy 0, (200, .inl t_px))), (q_t_py, .inl (cy 0, (200, .inl t_py))), (q_t_pz, .inl (cy 0, (200, .inl t_pz))), (q_t_strip, .inl (cy 0, (200, .inl t_strip))), (q_t_shifts, .inl (cy 0, (8, .inl t_shifts))), (q_t_kind, .inl (cy 0, (200, .inl t_kind)))]) A) A) (([.ref q_t, .int a1] : List Value)).toArray s 0 0 A) (F0 m 2 ls []) := by
    intro v1 n2
    induction n2 with
    | zero => intro t_cells v2 H locs hP hD hS ls hl h; exact False.elim h
    | succ n2 ih2 =>
      intro t_cells v2 H locs hP hD hS ls hl h
      have h : wp_X9_findGrid_b2_f (wp_X9_findGrid_b2 (wp_X9_findGrid_b23 Q t_many t_px t_py t_pz t_strip t_shifts t_kind) v1 n2) (wp_X9_findGrid_b23 Q t_many t_px t_py t_pz t_strip t_shifts t_kind) v1 t_cells v2 := h
      unfold wp_X9_findGrid_b2_f at h
      refine lv_iload_n hx hb dX9_findGrid_2 rfl (lv_at hl 2 rfl) ?_
      refine lv_sipush (v := (256 : Int32)) hx hb dX9_findGrid_3 (by decide) ?_
      refine lv_icmp_ge (tgt := 23) hx hb dX9_findGrid_6 (by decide) (fun c_ => ?_) (fun c_ => ?_)
      · have h := h.1 c_
        exact j23 t_cells v1 _ _ hP hD hS _ (lv_sub hl [0, 1] rfl) h
      · have h := h.2 c_
        refine lv_aload_n hx hb dX9_findGrid_9 rfl (lv_at hl 0 rfl) ?_
        refine va_get (D := D) (ci := 9) (C := RX9) (T := TX9) (N := 30) hx hb hts hi_X9 hown hK hP 0 rfl rfl 20 (by decide) (hts (.fieldLink RX9 69 "RayGroundModel" "cells" "[I") (List.mem_of_getElem? (i := 1) rfl)) (fun _ h9 => h9) rfl dX9_findGrid_10 ?_
        refine lv_iload_n hx hb dX9_findGrid_13 rfl (lv_at hl 2 rfl) ?_
        refine lv_ldc (v := (100000 : Int32)) hx hb hown (hts (.constant RX9 204 (100000)) (List.mem_of_getElem? (i := 2) rfl)) dX9_findGrid_14 ?_
        refine py_iast hx hb hK hP hD hS 1 0 rfl rfl (k := v2.toNatClampNeg) rfl h.1 dX9_findGrid_16 (fun H locs hP hD hS => ?_)
        have h := h.2
        have hP : va_P D vwCl [(q_t, .inr (9, [.ref q_t_lanes, .ref q_t_sizes, .ref q_t_items, .ref q_t_spare, .ref q_t_many, .ref q_t_px, .ref q_t_py, .ref q_t_pz, .ref q_t_strip, .ref q_t_kind, .ref q_t_byHand, .ref q_t_round, .ref q_t_lost, .ref q_t_shifts, .ref q_t_matrix, .ref q_t_right, .ref q_t_found, .ref q_t_high, .int t_highs, .ref q_t_near, .ref q_t_cells, .ref q_t_part, .ref q_t_before, .ref q_t_tape, .int t_taped, .int t_at, .int t_fault, .int t_steps, .ref q_t_what, .ref q_t_numbers])), (q_t_cells, .inl (cy 0, (256, .inl (upd t_cells v2.toNatClampNeg (100000 : Int32))))), (q_t_many, .inl (cy 0, (2, .inl t_many))), (q_t_px, .inl (cy 0, (200, .inl t_px))), (q_t_py, .inl (cy 0, (200, .inl t_py))), (q_t_pz, .inl (cy 0, (200, .inl t_pz))), (q_t_strip, .inl (cy 0, (200, .inl t_strip))), (q_t_shifts, .inl (cy 0, (8, .inl t_shifts))), (q_t_kind, .inl (cy 0, (200, .inl t_kind)))] H := hP
        have hD : va_D A [(q_t, .inr (9, [.ref q_t_lanes, .ref q_t_sizes, .ref q_t_items, .ref q_t_spare, .ref q_t_many, .ref q_t_px, .ref q_t_py, .ref q_t_pz, .ref q_t_strip, .ref q_t_kind, .ref q_t_byHand, .ref q_t_round, .ref q_t_lost, .ref q_t_shifts, .ref q_t_matrix, .ref q_t_right, .ref q_t_found, .ref q_t_high, .int t_highs, .ref q_t_near, .ref q_t_cells, .ref q_t_part, .ref q_t_before, .ref q_t_tape, .int t_taped, .int t_at, .int t_fault, .int t_steps, .ref q_t_what, .ref q_t_numbers])), (q_t_cells, .inl (cy 0, (256, .inl (upd t_cells v2.toNatClampNeg (100000 : Int32))))), (q_t_many, .inl (cy 0, (2, .inl t_many))), (q_t_px, .inl (cy 0, (200, .inl t_px))), (q_t_py, .inl (cy 0, (200, .inl t_py))), (q_t_pz, .inl (cy 0, (200, .inl t_pz))), (q_t_strip, .inl (cy 0, (200, .inl t_strip))), (q_t_shifts, .inl (cy 0, (8, .inl t_shifts))), (q_t_kind, .inl (cy 0, (200, .inl t_kind)))] := hD
        obtain ⟨v2_6, ev2_6⟩ : ∃ y : Int32, y = v2 + (1 : Int32) := ⟨_, rfl⟩
        have h := h v2_6 ev2_6
        refine lv_iinc (v := v2_6) (lv' := [(2, .int v2_6), (0, .ref q_t), (1, .int v1)]) hx hb dX9_findGrid_17 hl (k := 2) rfl (by rw [ev2_6]; rfl) (by decide) rfl (fun ls hl => ?_)
        refine lv_goto (tgt := 2) hx hb dX9_findGrid_20 (by decide) ?_
        exact ih2 (upd t_cells v2.toNatClampNeg (100000 : Int32)) v2_6 _ _ hP hD hS _ (lv_sub hl [1, 2, 0] rfl) h
  refine lv_iconst (v := (0 : Int32)) hx hb dX9_findGrid_0 (by decide) ?_
  refine lv_istore_n (lv' := [(2, .int (0 : Int32)), (0, .ref q_t), (1, .int a1)]) hx hb dX9_findGrid_1 rfl hl (by decide) rfl (fun ls hl => ?_)
  obtain ⟨n, h⟩ := h
  exact lp2 a1 n t_cells (0 : Int32) _ _ hP hD hS _ (lv_sub hl [1, 2, 0] rfl) h
set_option maxHeartbeats 4000000 in
set_option maxRecDepth 100000 in
theorem c_X9_count (l : Launch) (D : va_G) (cy : Nat → ClassId) (q_t_lanes q_t_sizes q_t_items q_t_spare q_t_many q_t_px q_t_py q_t_pz q_t_strip q_t_kind q_t_byHand q_t_round q_t_lost q_t_shifts q_t_matrix q_t_right q_t_found q_t_high q_t_near q_t_cells q_t_part q_t_before q_t_tape q_t_what q_t_numbers q_t : Nat) (t_highs : Int32) (t_taped : Int32) (t_at : Int32) (t_fault : Int32) (t_steps : Int32) (t_lost : Nat → Int32) (t_cells : Nat → Int32) (t_many : Nat → Int32) (t_px : Nat → Int32) (t_py : Nat → Int32) (t_pz : Nat → Int32) (t_strip : Nat → Int32) (t_shifts : Nat → Int32) (t_kind : Nat → Int32) (a1 : Int32) (a2 : Int32) (sz : Nat) (Q : Int32 → (Nat → Int32) → Prop) (h : wp_X9_count t_lost t_cells t_many t_px t_py t_pz t_strip t_shifts t_kind a1 a2 Q) : Met l yX9_count wsX9_count ({ frames := 2, cells := 0, slots := 0, locals := 46 } : Room) (py_Pw ([.ref q_t, .int a1, .int a2] : List Value) D cy [(q_t, .inr (9, [.ref q_t_lanes, .ref q_t_sizes, .ref q_t_items, .ref q_t_spare, .ref q_t_many, .ref q_t_px, .ref q_t_py, .ref q_t_pz, .ref q_t_strip, .ref q_t_kind, .ref q_t_byHand, .ref q_t_round, .ref q_t_lost, .ref q_t_shifts, .ref q_t_matrix, .ref q_t_right, .ref q_t_found, .ref q_t_high, .int t_highs, .ref q_t_near, .ref q_t_cells, .ref q_t_part, .ref q_t_before, .ref q_t_tape, .int t_taped, .int t_at, .int t_fault, .int t_steps, .ref q_t_what, .ref q_t_numbers])), (q_t_lost, .inl (cy 1, (32, .inl t_lost))), (q_t_cells, .inl (cy 0, (256, .inl t_cells))), (q_t_many, .inl (cy 0, (2, .inl t_many))), (q_t_px, .inl (cy 0, (200, .inl t_px))), (q_t_py, .inl (cy 0, (200, .inl t_py))), (q_t_pz, .inl (cy 0, (200, .inl t_pz))), (q_t_strip, .inl (cy 0, (200, .inl t_strip))), (q_t_shifts, .inl (cy 0, (8, .inl t_shifts))), (q_t_kind, .inl (cy 0, (200, .inl t_kind)))] sz) (va_Qi (fun (r : Int32) (u : (Nat → Int32)) => Q r u) (py_B D (fun (u : (Nat → Int32)) => [(q_t, .inr (9, [.ref q_t_lanes, .ref q_t_sizes, .ref q_t_items, .ref q_t_spare, .ref q_t_many, .ref q_t_px, .ref q_t_py, .ref q_t_pz, .ref q_t_strip, .ref q_t_kind, .ref q_t_byHand, .ref q_t_round, .ref q_t_lost, .ref q_t_shifts, .ref q_t_matrix, .ref q_t_right, .ref q_t_found, .ref q_t_high, .int t_highs, .ref q_t_near, .ref q_t_cells, .ref q_t_part, .ref q_t_before, .ref q_t_tape, .int t_taped, .int t_at, .int t_fault, .int t_steps, .ref q_t_what, .ref q_t_numbers])), (q_t_lost, .inl (cy 1, (32, .inl t_lost))), (q_t_cells, .inl (cy 0, (256, .inl u))), (q_t_many, .inl (cy 0, (2, .inl t_many))), (q_t_px, .inl (cy 0, (200, .inl t_px))), (q_t_py, .inl (cy 0, (200, .inl t_py))), (q_t_pz, .inl (cy 0, (200, .inl t_pz))), (q_t_strip, .inl (cy 0, (200, .inl t_strip))), (q_t_shifts, .inl (cy 0, (8, .inl t_shifts))), (q_t_kind, .inl (cy 0, (200, .inl t_kind)))]) (va_A [(q_t, .inr (9, [.ref q_t_lanes, .ref q_t_sizes, .ref q_t_items, .ref q_t_spare, .ref q_t_many, .ref q_t_px, .ref q_t_py, .ref q_t_pz, .ref q_t_strip, .ref q_t_kind, .ref q_t_byHand, .ref q_t_round, .ref q_t_lost, .ref q_t_shifts, .ref q_t_matrix, .ref q_t_right, .ref q_t_found, .ref q_t_high, .int t_highs, .ref q_t_near, .ref q_t_cells, .ref q_t_part, .ref q_t_before, .ref q_t_tape, .int t_taped, .int t_at, .int t_fault, .int t_steps, .ref q_t_what, .ref q_t_numbers])), (q_t_lost, .inl (cy 1, (32, .inl t_lost))), (q_t_cells, .inl (cy 0, (256, .inl t_cells))), (q_t_many, .inl (cy 0, (2, .inl t_many))), (q_t_px, .inl (cy 0, (200, .inl t_px))), (q_t_py, .inl (cy 0, (200, .inl t_py))), (q_t_pz, .inl (cy 0, (200, .inl t_pz))), (q_t_strip, .inl (cy 0, (200, .inl t_strip))), (q_t_shifts, .inl (cy 0, (8, .inl t_shifts))), (q_t_kind, .inl (cy 0, (200, .inl t_kind)))] sz)) (va_A [(q_t, .inr (9, [.ref q_t_lanes, .ref q_t_sizes, .ref q_t_items, .ref q_t_spare, .ref q_t_many, .ref q_t_px, .ref q_t_py, .ref q_t_pz, .ref q_t_strip, .ref q_t_kind, .ref q_t_byHand, .ref q_t_round, .ref q_t_lost, .ref q_t_shifts, .ref q_t_matrix, .ref q_t_right, .ref q_t_found, .ref q_t_high, .int t_highs, .ref q_t_near, .ref q_t_cells, .ref q_t_part, .ref q_t_before, .ref q_t_tape, .int t_taped, .int t_at, .int t_fault, .int t_steps, .ref q_t_what, .ref q_t_numbers])), (q_t_lost, .inl (cy 1, (32, .inl t_lost))), (q_t_cells, .inl (cy 0, (256, .inl t_cells))), (q_t_many, .inl (cy 0, (2, .inl t_many))), (q_t_px, .inl (cy 0, (200, .inl t_px))), (q_t_py, .inl (cy 0, (200, .inl t_py))), (q_t_pz, .inl (cy 0, (200, .inl t_pz))), (q_t_strip, .inl (cy 0, (200, .inl t_strip))), (q_t_shifts, .inl (cy 0, (8, .inl t_shifts))), (q_t_kind, .inl (cy 0, (200, .inl t_kind)))] sz)) 0 0 (va_A [(q_t, .inr (9, [.ref q_t_lanes, .ref q_t_sizes, .ref q_t_items, .ref q_t_spare, .ref q_t_many, .ref q_t_px, .ref q_t_py, .ref q_t_pz, .ref q_t_strip, .ref q_t_kind, .ref q_t_byHand, .ref q_t_round, .ref q_t_lost, .ref q_t_shifts, .ref q_t_matrix, .ref q_t_right, .ref q_t_found, .ref q_t_high, .int t_highs, .ref q_t_near, .ref q_t_cells, .ref q_t_part, .ref q_t_before, .ref q_t_tape, .int t_taped, .int t_at, .int t_fault, .int t_steps, .ref q_t_what, .ref q_t_numbers])), (q_t_lost, .inl (cy 1, (32, .inl t_lost))), (q_t_cells, .inl (cy 0, (256, .inl t_cells))), (q_t_many, .inl (cy 0, (2, .inl t_many))), (q_t_px, .inl (cy 0, (200, .inl t_px))), (q_t_py, .inl (cy 0, (200, .inl t_py))), (q_t_pz, .inl (cy 0, (200, .inl t_pz))), (q_t_strip, .inl (cy 0, (200, .inl t_strip))), (q_t_shifts, .inl (cy 0, (8, .inl t_shifts))), (q_t_kind, .inl (cy 0, (200, .inl t_kind)))] sz) := by
  refine Met.ofW (cc := cX9_count) (maxL := 5) (ret := (some .int)) (by decide) rfl ?_
  intro p e s m args below meth c s₁ B hml hv
  obtain ⟨rfl, hsz, hP, hKK, hD0⟩ := hv
  have hK := hKK.1
  have hN := hKK.2
  have hx := B.exec
  have hb := B.bytes
  have hr := B.returns
  have hts := atoms_spec (ws := wsX9_count) B.pre
  have hown : s.vm.findClass RX9 = some m.cls := findClass_of_methodNamed B.named
  have hlocks := B.notSynchronized
  have hi_X9 : ∀ w ∈ wsX90, w ∈ wsX9_count := fun w h => List.mem_cons_of_mem _ (List.mem_append_right _ (h))
  subst hsz
  have hD := hD0.self (sz := s.heap.size)
  generalize hAe : va_A [(q_t, .inr (9, [.ref q_t_lanes, .ref q_t_sizes, .ref q_t_items, .ref q_t_spare, .ref q_t_many, .ref q_t_px, .ref q_t_py, .ref q_t_pz, .ref q_t_strip, .ref q_t_kind, .ref q_t_byHand, .ref q_t_round, .ref q_t_lost, .ref q_t_shifts, .ref q_t_matrix, .ref q_t_right, .ref q_t_found, .ref q_t_high, .int t_highs, .ref q_t_near, .ref q_t_cells, .ref q_t_part, .ref q_t_before, .ref q_t_tape, .int t_taped, .int t_at, .int t_fault, .int t_steps, .ref q_t_what, .ref q_t_numbers])), (q_t_lost, .inl (cy 1, (32, .inl t_lost))), (q_t_cells, .inl (cy 0, (256, .inl t_cells))), (q_t_many, .inl (cy 0, (2, .inl t_many))), (q_t_px, .inl (cy 0, (200, .inl t_px))), (q_t_py, .inl (cy 0, (200, .inl t_py))), (q_t_pz, .inl (cy 0, (200, .inl t_pz))), (q_t_strip, .inl (cy 0, (200, .inl t_strip))), (q_t_shifts, .inl (cy 0, (8, .inl t_shifts))), (q_t_kind, .inl (cy 0, (200, .inl t_kind)))] s.heap.size = A at hD ⊢
  have hA : ∀ q : Nat, s.heap.size ≤ q → A q := fun q h => by rw [← hAe]; exact Or.inr h
  have hS : va_S A s.heap s.heap [] := va_S.rf
  have hl := lv_entry ([.ref q_t, .int a1, .int a2] : List Value) (n := 5) (Nat.le_of_ble_eq_true rfl)
  rw [lg_entry_eq]
  generalize (lg_sl ([.ref q_t, .int a1, .int a2] : List Value) ++ List.replicate (5 - (lg_sl ([.ref q_t, .int a1, .int a2] : List Value)).length) Slot.unset).toArray = ls at hl ⊢
  have hl : lv_has ls 5 [(0, .ref q_t), (1, .int a1), (2, .int a2)] := hl
  unfold wp_X9_count at h
  refine lv_iload_n hx hb dX9_count_0 rfl (lv_at hl 1 rfl) ?_
  refine py_ci (py_rSp (As := [.int a1]) ⟨hx, hb, hml, hown, hts⟩ hKK hP [] rfl (c_X9_isYear l D cy a1 _ h) (va_cwS 1 hts gX9_count_X9_isYear rfl rfl rfl cd_X9_isYear ⟨Nat.le_of_ble_eq_true rfl, Nat.le_of_ble_eq_true rfl⟩) rfl hl.1 rfl (Nat.le_of_ble_eq_true rfl) ⟨Nat.zero_le _, Nat.zero_le _⟩ dX9_count_1) (fun r_1 h => ?_)
  refine lv_if_eq (tgt := 19) hx hb dX9_count_4 (by decide) (fun c_ => ?_) (fun c_ => ?_)
  · have h := h.1 c_
    refine lv_iconst (v := (-1 : Int32)) hx hb dX9_count_19 (by decide) ?_
    exact W.iret (v := (-1 : Int32)) hx hb hr (fun t ht hW => ⟨⟨(-1 : Int32), t_cells, rfl, h, by rw [ht]; exact hP, hD⟩, hS.F ht⟩) hS.2.2 dX9_count_20
  · have h := h.2 c_
    refine lv_iload_n hx hb dX9_count_7 rfl (lv_at hl 2 rfl) ?_
    refine lv_i2l (v := (a2.toInt64)) hx hb dX9_count_8 rfl ?_
    refine lv_lconst (v := (0 : Int64)) hx hb dX9_count_9 (by decide) ?_
    refine lv_ldc2 (v := (13 : Int64)) hx hb hown (hts (.constantLong RX9 205 (13)) (List.mem_of_getElem? (i := 1) rfl)) dX9_count_10 ?_
    refine py_ci (py_rSp (As := [.long (a2.toInt64), .long (0 : Int64), .long (13 : Int64)]) ⟨hx, hb, hml, hown, hts⟩ hKK hP [] rfl (c_X9_in l D cy (a2.toInt64) (0 : Int64) (13 : Int64) _ h) (va_cwS 3 hts gX9_count_X9_in rfl rfl rfl cd_X9_in ⟨Nat.le_of_ble_eq_true rfl, Nat.le_of_ble_eq_true rfl⟩) rfl hl.1 rfl (Nat.le_of_ble_eq_true rfl) ⟨Nat.zero_le _, Nat.zero_le _⟩ dX9_count_13) (fun r_2 h => ?_)
    refine lv_if_ne (tgt := 21) hx hb dX9_count_16 (by decide) (fun c_ => ?_) (fun c_ => ?_)
    · have h := h.2 c_
      refine lv_iconst (v := (0 : Int32)) hx hb dX9_count_21 (by decide) ?_
      refine lv_istore_n (lv' := [(3, .int (0 : Int32)), (0, .ref q_t), (1, .int a1), (2, .int a2)]) hx hb dX9_count_22 rfl hl (by decide) rfl (fun ls hl => ?_)
      refine lv_iload_n hx hb dX9_count_23 rfl (lv_at hl 3 rfl) ?_
      refine lv_bipush (v := (12 : Int32)) hx hb dX9_count_24 (by decide) ?_
      refine lv_icmp_ne (tgt := 70) hx hb dX9_count_26 (by decide) (fun c_ => ?_) (fun c_ => ?_)
      · have h := h.2 c_
        refine lv_iload_n hx hb dX9_count_70 rfl (lv_at hl 3 rfl) ?_
        refine lv_bipush (v := (13 : Int32)) hx hb dX9_count_71 (by decide) ?_
        refine lv_icmp_ne (tgt := 120) hx hb dX9_count_73 (by decide) (fun c_ => ?_) (fun c_ => ?_)
        · have h := h.2 c_
          refine lv_iload_n hx hb dX9_count_120 rfl (lv_at hl 3 rfl) ?_
          refine lv_bipush (v := (11 : Int32)) hx hb dX9_count_121 (by decide) ?_
          refine lv_icmp_ne (tgt := 135) hx hb dX9_count_123 (by decide) (fun c_ => ?_) (fun c_ => ?_)
          · have h := h.2 c_
            refine lv_aload_n hx hb dX9_count_135 rfl (lv_at hl 1 rfl) ?_
            refine lv_iload_n hx hb dX9_count_136 rfl (lv_at hl 2 rfl) ?_
            refine lv_iload_n hx hb dX9_count_137 rfl (lv_at hl 3 rfl) ?_
            refine py_ci (py_rVp (As := [.int a1, .int a2]) ⟨hx, hb, hml, hown, hts⟩ hKK hP [0, 3, 9] rfl 0 9 rfl rfl (c_X9_countOf l D cy q_t_lanes q_t_sizes q_t_items q_t_spare q_t_many q_t_px q_t_py q_t_pz q_t_strip q_t_kind q_t_byHand q_t_round q_t_lost q_t_shifts q_t_matrix q_t_right q_t_found q_t_high q_t_near q_t_cells q_t_part q_t_before q_t_tape q_t_what q_t_numbers q_t t_highs t_taped t_at t_fault t_steps t_many t_kind a1 a2 _ h) (cwV 2 hts gX9_count_X9_countOf rfl rfl rfl cdv_X9_countOf ⟨Nat.le_of_ble_eq_true rfl, Nat.le_of_ble_eq_true rfl⟩) rfl hl.1 rfl (Nat.le_of_ble_eq_true rfl) ⟨Nat.zero_le _, Nat.zero_le _⟩ dX9_count_138) (fun r_3 h => ?_)
            exact W.iret (v := r_3) hx hb hr (fun t ht hW => ⟨⟨r_3, t_cells, rfl, h, by rw [ht]; exact hP, hD⟩, hS.F ht⟩) hS.2.2 dX9_count_141
          · have h := h.1 c_
            refine lv_aload_n hx hb dX9_count_126 rfl (lv_at hl 1 rfl) ?_
            refine va_get (D := D) (ci := 9) (C := RX9) (T := TX9) (N := 30) hx hb hts hi_X9 hown hK hP 0 rfl rfl 4 (by decide) (hts (.fieldLink RX9 22 "RayGroundModel" "many" "[I") (List.mem_of_getElem? (i := 5) rfl)) (fun _ h9 => h9) rfl dX9_count_127 ?_
            refine lv_iload_n hx hb dX9_count_130 rfl (lv_at hl 2 rfl) ?_
            refine py_iald hx hb hK hP 3 0 rfl rfl (k := a1.toNatClampNeg) rfl h.1 dX9_count_131 ?_
            have h := h.2
            refine lv_goto (tgt := 141) hx hb dX9_count_132 (by decide) ?_
            exact W.iret (v := (t_many a1.toNatClampNeg)) hx hb hr (fun t ht hW => ⟨⟨(t_many a1.toNatClampNeg), t_cells, rfl, h, by rw [ht]; exact hP, hD⟩, hS.F ht⟩) hS.2.2 dX9_count_141
        · have h := h.1 c_
          have lp84 : ∀ (t_cells : Nat → Int32) (n84 : Nat) (v3 : Int32) (v4 : Int32) (H : Heap) (locs : List Loc), va_P D vwCl [(q_t, .inr (9, [.ref q_t_lanes, .ref q_t_sizes, .ref q_t_items, .ref q_t_spare, .ref q_t_many, .ref q_t_px, .ref q_t_py, .ref q_t_pz, .ref q_t_strip, .ref q_t_kind, .ref q_t_byHand, .ref q_t_round, .ref q_t_lost, .ref q_t_shifts, .ref q_t_matrix, .ref q_t_right, .ref q_t_found, .ref q_t_high, .int t_highs, .ref q_t_near, .ref q_t_cells, .ref q_t_part, .ref q_t_before, .ref q_t_tape, .int t_taped, .int t_at, .int t_fault, .int t_steps, .ref q_t_what, .ref q_t_numbers])), (q_t_lost, .inl (cy 1, (32, .inl t_lost))), (q_t_cells, .inl (cy 0, (256, .inl t_cells))), (q_t_many, .inl (cy 0, (2, .inl t_many))), (q_t_px, .inl (cy 0, (200, .inl t_px))), (q_t_py, .inl (cy 0, (200, .inl t_py))), (q_t_pz, .inl (cy 0, (200, .inl t_pz))), (q_t_strip, .inl (cy 0, (200, .inl t_strip))), (q_t_shifts, .inl (cy 0, (8, .inl t_shifts))), (q_t_kind, .inl (cy 0, (200, .inl t_kind)))] H → va_D A [(q_t, .inr (9, [.ref q_t_lanes, .ref q_t_sizes, .ref q_t_items, .ref q_t_spare, .ref q_t_many, .ref q_t_px, .ref q_t_py, .ref q_t_pz, .ref q_t_strip, .ref q_t_kind, .ref q_t_byHand, .ref q_t_round, .ref q_t_lost, .ref q_t_shifts, .ref q_t_matrix, .ref q_t_right, .ref q_t_found, .ref q_t_high, .int t_highs, .ref q_t_near, .ref q_t_cells, .ref q_t_part, .ref q_t_before, .ref q_t_tape, .int t_taped, .int t_at, .int t_fault, .int t_steps, .ref q_t_what, .ref q_t_numbers])), (q_t_lost, .inl (cy 1, (32, .inl t_lost))), (q_t_cells, .inl (cy 0, (256, .inl t_cells))), (q_t_many, .inl (cy 0, (2, .inl t_many))), (q_t_px, .inl (cy 0, (200, .inl t_px))), (q_t_py, .inl (cy 0, (200, .inl t_py))), (q_t_pz, .inl (cy 0, (200, .inl t_pz))), (q_t_strip, .inl (cy 0, (200, .inl t_strip))), (q_t_shifts, .inl (cy 0, (8, .inl t_shifts))), (q_t_kind, .inl (cy 0, (200, .inl t_kind)))] → va_S A s.heap H locs → ∀ (ls : Array Slot), lv_has ls 5 [(0, .ref q_t), (3, .int v3), (4, .int v4)] → wp_X9_count_b84 Q t_cells n84 v3 v4 → W p l e (headSpec wsX9_count ({ frames := 2, cells := 0, slots := 0, locals := 46 } : Room)).room s m (([.ref q_t, .int a1, .int a2] : List Value)).toArray below meth c H locs 0 0 (MQ below (va_Qi (fun (r : Int32) (u : (Nat → Int32)) => Q r u) (py_B D (fun (u : (Nat → Int32)) => [(q_t, .inr (9, [.ref q_t_lanes, .ref q_t_sizes, .ref q_t_items, .ref q_t_spare, .ref q_t_many, .ref q_t_px, .ref q_t_py, .ref q_t_pz, .ref q_t_strip, .ref q_t_kind, .ref q_t_byHand, .ref q_t_round, .ref q_t_lost, .ref q_t_shifts, .ref q_t_matrix, .ref q_t_right, .ref q_t_found, .ref q_t_high, .int t_highs, .ref q_t_near, .ref q_t_cells, .ref q_t_part, .ref q_t_before, .ref q_t_tape, .int t_taped, .int t_at, .int t_fault, .int t_steps, .ref q_t_what, .ref q_t_numbers])), (q_t_lost, .inl (cy 1, (32, .inl t_lost))), (q_t_cells, .inl (cy 0, (256, .inl u))), (q_t_many, .inl (cy 0, (2, .inl t_many))), (q_t_px, .inl (cy 0, (200, .inl t_px))), (q_t_py, .inl (cy 0, (200, .inl t_py))), (q_t_pz, .inl (cy 0, (200, .inl t_pz))), (q_t_strip, .inl (cy 0, (200, .inl t_strip))), (q_t_shifts, .inl (cy 0, (8, .inl t_shifts))), (q_t_kind, .inl (cy 0, (200, .inl t_kind)))]) A) A) (([.ref q_t, .int a1, .int a2] : List Value)).toArray s 0 0 A) (F0 m 84 ls []) := by
            intro t_cells n84
            induction n84 with
            | zero => intro v3 v4 H locs hP hD hS ls hl h; exact False.elim h
            | succ n84 ih84 =>
              intro v3 v4 H locs hP hD hS ls hl h
              have h : wp_X9_count_b84_f (wp_X9_count_b84 Q t_cells n84) Q t_cells v3 v4 := h
              unfold wp_X9_count_b84_f at h
              refine lv_iload hx hb dX9_count_84 (lv_at hl 2 rfl) ?_
              refine lv_sipush (v := (256 : Int32)) hx hb dX9_count_86 (by decide) ?_
              refine lv_icmp_ge (tgt := 118) hx hb dX9_count_89 (by decide) (fun c_ => ?_) (fun c_ => ?_)
              · have h := h.1 c_
                refine lv_iload_n hx hb dX9_count_118 rfl (lv_at hl 1 rfl) ?_
                exact W.iret (v := v3) hx hb hr (fun t ht hW => ⟨⟨v3, t_cells, rfl, h, by rw [ht]; exact hP, hD⟩, hS.F ht⟩) hS.2.2 dX9_count_119
              · have h := h.2 c_
                have j110 : ∀ (v4 : Int32) (s0 : Int32) (s1 : Int32) (H : Heap) (locs : List Loc), va_P D vwCl [(q_t, .inr (9, [.ref q_t_lanes, .ref q_t_sizes, .ref q_t_items, .ref q_t_spare, .ref q_t_many, .ref q_t_px, .ref q_t_py, .ref q_t_pz, .ref q_t_strip, .ref q_t_kind, .ref q_t_byHand, .ref q_t_round, .ref q_t_lost, .ref q_t_shifts, .ref q_t_matrix, .ref q_t_right, .ref q_t_found, .ref q_t_high, .int t_highs, .ref q_t_near, .ref q_t_cells, .ref q_t_part, .ref q_t_before, .ref q_t_tape, .int t_taped, .int t_at, .int t_fault, .int t_steps, .ref q_t_what, .ref q_t_numbers])), (q_t_lost, .inl (cy 1, (32, .inl t_lost))), (q_t_cells, .inl (cy 0, (256, .inl t_cells))), (q_t_many, .inl (cy 0, (2, .inl t_many))), (q_t_px, .inl (cy 0, (200, .inl t_px))), (q_t_py, .inl (cy 0, (200, .inl t_py))), (q_t_pz, .inl (cy 0, (200, .inl t_pz))), (q_t_strip, .inl (cy 0, (200, .inl t_strip))), (q_t_shifts, .inl (cy 0, (8, .inl t_shifts))), (q_t_kind, .inl (cy 0, (200, .inl t_kind)))] H → va_D A [(q_t, .inr (9, [.ref q_t_lanes, .ref q_t_sizes, .ref q_t_items, .ref q_t_spare, .ref q_t_many, .ref q_t_px, .ref q_t_py, .ref q_t_pz, .ref q_t_strip, .ref q_t_kind, .ref q_t_byHand, .ref q_t_round, .ref q_t_lost, .ref q_t_shifts, .ref q_t_matrix, .ref q_t_right, .ref q_t_found, .ref q_t_high, .int t_highs, .ref q_t_near, .ref q_t_cells, .ref q_t_part, .ref q_t_before, .ref q_t_tape, .int t_taped, .int t_at, .int t_fault, .int t_steps, .ref q_t_what, .ref q_t_numbers])), (q_t_lost, .inl (cy 1, (32, .inl t_lost))), (q_t_cells, .inl (cy 0, (256, .inl t_cells))), (q_t_many, .inl (cy 0, (2, .inl t_many))), (q_t_px, .inl (cy 0, (200, .inl t_px))), (q_t_py, .inl (cy 0, (200, .inl t_py))), (q_t_pz, .inl (cy 0, (200, .inl t_pz))), (q_t_strip, .inl (cy 0, (200, .inl t_strip))), (q_t_shifts, .inl (cy 0, (8, .inl t_shifts))), (q_t_kind, .inl (cy 0, (200, .inl t_kind)))] → va_S A s.heap H locs → ∀ (ls : Array Slot), lv_has ls 5 [(0, .ref q_t), (4, .int v4)] → wp_X9_count_b110 (wp_X9_count_b84 Q t_cells n84) v4 s0 s1 → W p l e (headSpec wsX9_count ({ frames := 2, cells := 0, slots := 0, locals := 46 } : Room)).room s m (([.ref q_t, .int a1, .int a2] : List Value)).toArray below meth c H locs 0 0 (MQ below (va_Qi (fun (r : Int32) (u : (Nat → Int32)) => Q r u) (py_B D (fun (u : (Nat → Int32)) => [(q_t, .inr (9, [.ref q_t_lanes, .ref q_t_sizes, .ref q_t_items, .ref q_t_spare, .ref q_t_many, .ref q_t_px, .ref q_t_py, .ref q_t_pz, .ref q_t_strip, .ref q_t_kind, .ref q_t_byHand, .ref q_t_round, .ref q_t_lost, .ref q_t_shifts, .ref q_t_matrix, .ref q_t_right, .ref q_t_found, .ref q_t_high, .int t_highs, .ref q_t_near, .ref q_t_cells, .ref q_t_part, .ref q_t_before, .ref q_t_tape, .int t_taped, .int t_at, .int t_fault, .int t_steps, .ref q_t_what, .ref q_t_numbers])), (q_t_lost, .inl (cy 1, (32, .inl t_lost))), (q_t_cells, .inl (cy 0, (256, .inl u))), (q_t_many, .inl (cy 0, (2, .inl t_many))), (q_t_px, .inl (cy 0, (200, .inl t_px))), (q_t_py, .inl (cy 0, (200, .inl t_py))), (q_t_pz, .inl (cy 0, (200, .inl t_pz))), (q_t_strip, .inl (cy 0, (200, .inl t_strip))), (q_t_shifts, .inl (cy 0, (8, .inl t_shifts))), (q_t_kind, .inl (cy 0, (200, .inl t_kind)))]) A) A) (([.ref q_t, .int a1, .int a2] : List Value)).toArray s 0 0 A) (F0 m 110 ls [.int s1, .int s0]) := by
                  intro v4 s0 s1 H locs hP hD hS ls hl h
                  unfold wp_X9_count_b110 at h
                  refine lv_iadd hx hb dX9_count_110 ?_
                  refine lv_topi (fun v3_4 ev3_4 => ?_)
                  have h := h v3_4 ev3_4
                  refine lv_istore_n (lv' := [(3, .int v3_4), (0, .ref q_t), (4, .int v4)]) hx hb dX9_count_111 rfl hl (by decide) rfl (fun ls hl => ?_)
                  obtain ⟨v4_5, ev4_5⟩ : ∃ y : Int32, y = v4 + (1 : Int32) := ⟨_, rfl⟩
                  have h := h v4_5 ev4_5
                  refine lv_iinc (v := v4_5) (lv' := [(4, .int v4_5), (3, .int v3_4), (0, .ref q_t)]) hx hb dX9_count_112 hl (k := 2) rfl (by rw [ev4_5]; rfl) (by decide) rfl (fun ls hl => ?_)
                  refine lv_goto (tgt := 84) hx hb dX9_count_115 (by decide) ?_
                  exact ih84 v3_4 v4_5 _ _ hP hD hS _ (lv_sub hl [2, 1, 0] rfl) h
                refine lv_iload_n hx hb dX9_count_92 rfl (lv_at hl 1 rfl) ?_
                refine lv_aload_n hx hb dX9_count_93 rfl (lv_at hl 0 rfl) ?_
                refine va_get (D := D) (ci := 9) (C := RX9) (T := TX9) (N := 30) hx hb hts hi_X9 hown hK hP 0 rfl rfl 20 (by decide) (hts (.fieldLink RX9 69 "RayGroundModel" "cells" "[I") (List.mem_of_getElem? (i := 3) rfl)) (fun _ h9 => h9) rfl dX9_count_94 ?_
                refine lv_iload hx hb dX9_count_97 (lv_at hl 2 rfl) ?_
                refine py_iald hx hb hK hP 2 0 rfl rfl (k := v4.toNatClampNeg) rfl h.1 dX9_count_99 ?_
                have h := h.2
                refine lv_ldc (v := (100000 : Int32)) hx hb hown (hts (.constant RX9 204 (100000)) (List.mem_of_getElem? (i := 4) rfl)) dX9_count_100 ?_
                refine lv_icmp_ne (tgt := 109) hx hb dX9_count_102 (by decide) (fun c_ => ?_) (fun c_ => ?_)
                · have h := h.2 c_
                  refine lv_iconst (v := (1 : Int32)) hx hb dX9_count_109 (by decide) ?_
                  exact j110 v4 v3 (1 : Int32) _ _ hP hD hS _ (lv_sub hl [0, 2] rfl) h
                · have h := h.1 c_
                  refine lv_iconst (v := (0 : Int32)) hx hb dX9_count_105 (by decide) ?_
                  refine lv_goto (tgt := 110) hx hb dX9_count_106 (by decide) ?_
                  exact j110 v4 v3 (0 : Int32) _ _ hP hD hS _ (lv_sub hl [0, 2] rfl) h
          refine lv_aload_n hx hb dX9_count_76 rfl (lv_at hl 1 rfl) ?_
          refine lv_iload_n hx hb dX9_count_77 rfl (lv_at hl 2 rfl) ?_
          refine py_wv (wr := [(q_t_lost, .inl (cy 1, (32, .inl t_lost)))]) (py_rVw (As := [.int a1]) ⟨hx, hb, hml, hown, hts⟩ hKK hP hD [0, 2, 3, 4, 5, 6, 7, 8, 9] rfl rfl rfl 0 9 rfl rfl (c_X9_findGrid l D cy q_t_lanes q_t_sizes q_t_items q_t_spare q_t_many q_t_px q_t_py q_t_pz q_t_strip q_t_kind q_t_byHand q_t_round q_t_lost q_t_shifts q_t_matrix q_t_right q_t_found q_t_high q_t_near q_t_cells q_t_part q_t_before q_t_tape q_t_what q_t_numbers q_t t_highs t_taped t_at t_fault t_steps t_cells t_many t_px t_py t_pz t_strip t_shifts t_kind a1 s.heap.size _ h) (cwV 1 hts gX9_count_X9_findGrid rfl rfl rfl cdv_X9_findGrid ⟨Nat.le_of_ble_eq_true rfl, Nat.le_of_ble_eq_true rfl⟩) rfl hl.1 rfl (Nat.le_of_ble_eq_true rfl) ⟨Nat.zero_le _, Nat.zero_le _⟩ dX9_count_78) hP hD hS hA [0, 2, 3, 4, 5, 6, 7, 8, 9] [1] rfl rfl rfl (by decide) (fun u H locs h hP hD hS => ?_)
          obtain ⟨c_cells_7, rfl⟩ : ∃ z, z = u := ⟨_, rfl⟩
          have hP := hP.sub (ws' := [(q_t, .inr (9, [.ref q_t_lanes, .ref q_t_sizes, .ref q_t_items, .ref q_t_spare, .ref q_t_many, .ref q_t_px, .ref q_t_py, .ref q_t_pz, .ref q_t_strip, .ref q_t_kind, .ref q_t_byHand, .ref q_t_round, .ref q_t_lost, .ref q_t_shifts, .ref q_t_matrix, .ref q_t_right, .ref q_t_found, .ref q_t_high, .int t_highs, .ref q_t_near, .ref q_t_cells, .ref q_t_part, .ref q_t_before, .ref q_t_tape, .int t_taped, .int t_at, .int t_fault, .int t_steps, .ref q_t_what, .ref q_t_numbers])), (q_t_lost, .inl (cy 1, (32, .inl t_lost))), (q_t_cells, .inl (cy 0, (256, .inl c_cells_7))), (q_t_many, .inl (cy 0, (2, .inl t_many))), (q_t_px, .inl (cy 0, (200, .inl t_px))), (q_t_py, .inl (cy 0, (200, .inl t_py))), (q_t_pz, .inl (cy 0, (200, .inl t_pz))), (q_t_strip, .inl (cy 0, (200, .inl t_strip))), (q_t_shifts, .inl (cy 0, (8, .inl t_shifts))), (q_t_kind, .inl (cy 0, (200, .inl t_kind)))]) [1, 0, 2, 3, 4, 5, 6, 7, 8, 9] rfl
          have hD := hD.sub (ws' := [(q_t, .inr (9, [.ref q_t_lanes, .ref q_t_sizes, .ref q_t_items, .ref q_t_spare, .ref q_t_many, .ref q_t_px, .ref q_t_py, .ref q_t_pz, .ref q_t_strip, .ref q_t_kind, .ref q_t_byHand, .ref q_t_round, .ref q_t_lost, .ref q_t_shifts, .ref q_t_matrix, .ref q_t_right, .ref q_t_found, .ref q_t_high, .int t_highs, .ref q_t_near, .ref q_t_cells, .ref q_t_part, .ref q_t_before, .ref q_t_tape, .int t_taped, .int t_at, .int t_fault, .int t_steps, .ref q_t_what, .ref q_t_numbers])), (q_t_lost, .inl (cy 1, (32, .inl t_lost))), (q_t_cells, .inl (cy 0, (256, .inl c_cells_7))), (q_t_many, .inl (cy 0, (2, .inl t_many))), (q_t_px, .inl (cy 0, (200, .inl t_px))), (q_t_py, .inl (cy 0, (200, .inl t_py))), (q_t_pz, .inl (cy 0, (200, .inl t_pz))), (q_t_strip, .inl (cy 0, (200, .inl t_strip))), (q_t_shifts, .inl (cy 0, (8, .inl t_shifts))), (q_t_kind, .inl (cy 0, (200, .inl t_kind)))]) [1, 0, 2, 3, 4, 5, 6, 7, 8, 9] rfl rfl
          refine lv_iconst (v := (0 : Int32)) hx hb dX9_count_81 (by decide) ?_
          refine lv_istore (lv' := [(4, .int (0 : Int32)), (3, .int (0 : Int32)), (0, .ref q_t), (1, .int a1), (2, .int a2)]) hx hb dX9_count_82 hl (by decide) rfl (fun ls hl => ?_)
          obtain ⟨n, h⟩ := h
          exact lp84 c_cells_7 n (0 : Int32) (0 : Int32) _ _ hP hD hS _ (lv_sub hl [2, 1, 0] rfl) h
      · have h := h.1 c_
        have lp32 : ∀ (t_cells : Nat → Int32) (v1 : Int32) (n32 : Nat) (v3 : Int32) (v4 : Int32) (H : Heap) (locs : List Loc), va_P D vwCl [(q_t, .inr (9, [.ref q_t_lanes, .ref q_t_sizes, .ref q_t_items, .ref q_t_spare, .ref q_t_many, .ref q_t_px, .ref q_t_py, .ref q_t_pz, .ref q_t_strip, .ref q_t_kind, .ref q_t_byHand, .ref q_t_round, .ref q_t_lost, .ref q_t_shifts, .ref q_t_matrix, .ref q_t_right, .ref q_t_found, .ref q_t_high, .int t_highs, .ref q_t_near, .ref q_t_cells, .ref q_t_part, .ref q_t_before, .ref q_t_tape, .int t_taped, .int t_at, .int t_fault, .int t_steps, .ref q_t_what, .ref q_t_numbers])), (q_t_lost, .inl (cy 1, (32, .inl t_lost))), (q_t_cells, .inl (cy 0, (256, .inl t_cells))), (q_t_many, .inl (cy 0, (2, .inl t_many))), (q_t_px, .inl (cy 0, (200, .inl t_px))), (q_t_py, .inl (cy 0, (200, .inl t_py))), (q_t_pz, .inl (cy 0, (200, .inl t_pz))), (q_t_strip, .inl (cy 0, (200, .inl t_strip))), (q_t_shifts, .inl (cy 0, (8, .inl t_shifts))), (q_t_kind, .inl (cy 0, (200, .inl t_kind)))] H → va_D A [(q_t, .inr (9, [.ref q_t_lanes, .ref q_t_sizes, .ref q_t_items, .ref q_t_spare, .ref q_t_many, .ref q_t_px, .ref q_t_py, .ref q_t_pz, .ref q_t_strip, .ref q_t_kind, .ref q_t_byHand, .ref q_t_round, .ref q_t_lost, .ref q_t_shifts, .ref q_t_matrix, .ref q_t_right, .ref q_t_found, .ref q_t_high, .int t_highs, .ref q_t_near, .ref q_t_cells, .ref q_t_part, .ref q_t_before, .ref q_t_tape, .int t_taped, .int t_at, .int t_fault, .int t_steps, .ref q_t_what, .ref q_t_numbers])), (q_t_lost, .inl (cy 1, (32, .inl t_lost))), (q_t_cells, .inl (cy 0, (256, .inl t_cells))), (q_t_many, .inl (cy 0, (2, .inl t_many))), (q_t_px, .inl (cy 0, (200, .inl t_px))), (q_t_py, .inl (cy 0, (200, .inl t_py))), (q_t_pz, .inl (cy 0, (200, .inl t_pz))), (q_t_strip, .inl (cy 0, (200, .inl t_strip))), (q_t_shifts, .inl (cy 0, (8, .inl t_shifts))), (q_t_kind, .inl (cy 0, (200, .inl t_kind)))] → va_S A s.heap H locs → ∀ (ls : Array Slot), lv_has ls 5 [(0, .ref q_t), (1, .int v1), (3, .int v3), (4, .int v4)] → wp_X9_count_b32 Q t_lost t_cells v1 n32 v3 v4 → W p l e (headSpec wsX9_count ({ frames := 2, cells := 0, slots := 0, locals := 46 } : Room)).room s m (([.ref q_t, .int a1, .int a2] : List Value)).toArray below meth c H locs 0 0 (MQ below (va_Qi (fun (r : Int32) (u : (Nat → Int32)) => Q r u) (py_B D (fun (u : (Nat → Int32)) => [(q_t, .inr (9, [.ref q_t_lanes, .ref q_t_sizes, .ref q_t_items, .ref q_t_spare, .ref q_t_many, .ref q_t_px, .ref q_t_py, .ref q_t_pz, .ref q_t_strip, .ref q_t_kind, .ref q_t_byHand, .ref q_t_round, .ref q_t_lost, .ref q_t_shifts, .ref q_t_matrix, .ref q_t_right, .ref q_t_found, .ref q_t_high, .int t_highs, .ref q_t_near, .ref q_t_cells, .ref q_t_part, .ref q_t_before, .ref q_t_tape, .int t_taped, .int t_at, .int t_fault, .int t_steps, .ref q_t_what, .ref q_t_numbers])), (q_t_lost, .inl (cy 1, (32, .inl t_lost))), (q_t_cells, .inl (cy 0, (256, .inl u))), (q_t_many, .inl (cy 0, (2, .inl t_many))), (q_t_px, .inl (cy 0, (200, .inl t_px))), (q_t_py, .inl (cy 0, (200, .inl t_py))), (q_t_pz, .inl (cy 0, (200, .inl t_pz))), (q_t_strip, .inl (cy 0, (200, .inl t_strip))), (q_t_shifts, .inl (cy 0, (8, .inl t_shifts))), (q_t_kind, .inl (cy 0, (200, .inl t_kind)))]) A) A) (([.ref q_t, .int a1, .int a2] : List Value)).toArray s 0 0 A) (F0 m 32 ls []) := by
          intro t_cells v1 n32
          induction n32 with
          | zero => intro v3 v4 H locs hP hD hS ls hl h; exact False.elim h
          | succ n32 ih32 =>
            intro v3 v4 H locs hP hD hS ls hl h
            have h : wp_X9_count_b32_f (wp_X9_count_b32 Q t_lost t_cells v1 n32) Q t_lost t_cells v1 v3 v4 := h
            unfold wp_X9_count_b32_f at h
            refine lv_iload hx hb dX9_count_32 (lv_at hl 3 rfl) ?_
            refine lv_bipush (v := (16 : Int32)) hx hb dX9_count_34 (by decide) ?_
            refine lv_icmp_ge (tgt := 68) hx hb dX9_count_36 (by decide) (fun c_ => ?_) (fun c_ => ?_)
            · have h := h.1 c_
              refine lv_iload_n hx hb dX9_count_68 rfl (lv_at hl 2 rfl) ?_
              exact W.iret (v := v3) hx hb hr (fun t ht hW => ⟨⟨v3, t_cells, rfl, h, by rw [ht]; exact hP, hD⟩, hS.F ht⟩) hS.2.2 dX9_count_69
            · have h := h.2 c_
              have j60 : ∀ (v4 : Int32) (s0 : Int32) (s1 : Int32) (H : Heap) (locs : List Loc), va_P D vwCl [(q_t, .inr (9, [.ref q_t_lanes, .ref q_t_sizes, .ref q_t_items, .ref q_t_spare, .ref q_t_many, .ref q_t_px, .ref q_t_py, .ref q_t_pz, .ref q_t_strip, .ref q_t_kind, .ref q_t_byHand, .ref q_t_round, .ref q_t_lost, .ref q_t_shifts, .ref q_t_matrix, .ref q_t_right, .ref q_t_found, .ref q_t_high, .int t_highs, .ref q_t_near, .ref q_t_cells, .ref q_t_part, .ref q_t_before, .ref q_t_tape, .int t_taped, .int t_at, .int t_fault, .int t_steps, .ref q_t_what, .ref q_t_numbers])), (q_t_lost, .inl (cy 1, (32, .inl t_lost))), (q_t_cells, .inl (cy 0, (256, .inl t_cells))), (q_t_many, .inl (cy 0, (2, .inl t_many))), (q_t_px, .inl (cy 0, (200, .inl t_px))), (q_t_py, .inl (cy 0, (200, .inl t_py))), (q_t_pz, .inl (cy 0, (200, .inl t_pz))), (q_t_strip, .inl (cy 0, (200, .inl t_strip))), (q_t_shifts, .inl (cy 0, (8, .inl t_shifts))), (q_t_kind, .inl (cy 0, (200, .inl t_kind)))] H → va_D A [(q_t, .inr (9, [.ref q_t_lanes, .ref q_t_sizes, .ref q_t_items, .ref q_t_spare, .ref q_t_many, .ref q_t_px, .ref q_t_py, .ref q_t_pz, .ref q_t_strip, .ref q_t_kind, .ref q_t_byHand, .ref q_t_round, .ref q_t_lost, .ref q_t_shifts, .ref q_t_matrix, .ref q_t_right, .ref q_t_found, .ref q_t_high, .int t_highs, .ref q_t_near, .ref q_t_cells, .ref q_t_part, .ref q_t_before, .ref q_t_tape, .int t_taped, .int t_at, .int t_fault, .int t_steps, .ref q_t_what, .ref q_t_numbers])), (q_t_lost, .inl (cy 1, (32, .inl t_lost))), (q_t_cells, .inl (cy 0, (256, .inl t_cells))), (q_t_many, .inl (cy 0, (2, .inl t_many))), (q_t_px, .inl (cy 0, (200, .inl t_px))), (q_t_py, .inl (cy 0, (200, .inl t_py))), (q_t_pz, .inl (cy 0, (200, .inl t_pz))), (q_t_strip, .inl (cy 0, (200, .inl t_strip))), (q_t_shifts, .inl (cy 0, (8, .inl t_shifts))), (q_t_kind, .inl (cy 0, (200, .inl t_kind)))] → va_S A s.heap H locs → ∀ (ls : Array Slot), lv_has ls 5 [(0, .ref q_t), (1, .int v1), (4, .int v4)] → wp_X9_count_b60 (wp_X9_count_b32 Q t_lost t_cells v1 n32) v4 s0 s1 → W p l e (headSpec wsX9_count ({ frames := 2, cells := 0, slots := 0, locals := 46 } : Room)).room s m (([.ref q_t, .int a1, .int a2] : List Value)).toArray below meth c H locs 0 0 (MQ below (va_Qi (fun (r : Int32) (u : (Nat → Int32)) => Q r u) (py_B D (fun (u : (Nat → Int32)) => [(q_t, .inr (9, [.ref q_t_lanes, .ref q_t_sizes, .ref q_t_items, .ref q_t_spare, .ref q_t_many, .ref q_t_px, .ref q_t_py, .ref q_t_pz, .ref q_t_strip, .ref q_t_kind, .ref q_t_byHand, .ref q_t_round, .ref q_t_lost, .ref q_t_shifts, .ref q_t_matrix, .ref q_t_right, .ref q_t_found, .ref q_t_high, .int t_highs, .ref q_t_near, .ref q_t_cells, .ref q_t_part, .ref q_t_before, .ref q_t_tape, .int t_taped, .int t_at, .int t_fault, .int t_steps, .ref q_t_what, .ref q_t_numbers])), (q_t_lost, .inl (cy 1, (32, .inl t_lost))), (q_t_cells, .inl (cy 0, (256, .inl u))), (q_t_many, .inl (cy 0, (2, .inl t_many))), (q_t_px, .inl (cy 0, (200, .inl t_px))), (q_t_py, .inl (cy 0, (200, .inl t_py))), (q_t_pz, .inl (cy 0, (200, .inl t_pz))), (q_t_strip, .inl (cy 0, (200, .inl t_strip))), (q_t_shifts, .inl (cy 0, (8, .inl t_shifts))), (q_t_kind, .inl (cy 0, (200, .inl t_kind)))]) A) A) (([.ref q_t, .int a1, .int a2] : List Value)).toArray s 0 0 A) (F0 m 60 ls [.int s1, .int s0]) := by
                intro v4 s0 s1 H locs hP hD hS ls hl h
                unfold wp_X9_count_b60 at h
                refine lv_iadd hx hb dX9_count_60 ?_
                refine lv_topi (fun v3_8 ev3_8 => ?_)
                have h := h v3_8 ev3_8
                refine lv_istore_n (lv' := [(3, .int v3_8), (0, .ref q_t), (1, .int v1), (4, .int v4)]) hx hb dX9_count_61 rfl hl (by decide) rfl (fun ls hl => ?_)
                obtain ⟨v4_9, ev4_9⟩ : ∃ y : Int32, y = v4 + (1 : Int32) := ⟨_, rfl⟩
                have h := h v4_9 ev4_9
                refine lv_iinc (v := v4_9) (lv' := [(4, .int v4_9), (3, .int v3_8), (0, .ref q_t), (1, .int v1)]) hx hb dX9_count_62 hl (k := 3) rfl (by rw [ev4_9]; rfl) (by decide) rfl (fun ls hl => ?_)
                refine lv_goto (tgt := 32) hx hb dX9_count_65 (by decide) ?_
                exact ih32 v3_8 v4_9 _ _ hP hD hS _ (lv_sub hl [2, 3, 1, 0] rfl) h
              refine lv_iload_n hx hb dX9_count_39 rfl (lv_at hl 2 rfl) ?_
              refine lv_aload_n hx hb dX9_count_40 rfl (lv_at hl 0 rfl) ?_
              refine va_get (D := D) (ci := 9) (C := RX9) (T := TX9) (N := 30) hx hb hts hi_X9 hown hK hP 0 rfl rfl 12 (by decide) (hts (.fieldLink RX9 46 "RayGroundModel" "lost" "[Z") (List.mem_of_getElem? (i := 2) rfl)) (fun _ h9 => h9) rfl dX9_count_41 ?_
              refine lv_bipush (v := (16 : Int32)) hx hb dX9_count_44 (by decide) ?_
              refine lv_iload_n hx hb dX9_count_46 rfl (lv_at hl 1 rfl) ?_
              refine lv_imul hx hb dX9_count_47 ?_
              refine lv_iload hx hb dX9_count_48 (lv_at hl 3 rfl) ?_
              refine lv_iadd hx hb dX9_count_50 ?_
              refine py_zald hx hb hK hP 1 1 rfl rfl (k := (((16 : Int32) * v1) + v4).toNatClampNeg) rfl h.1 dX9_count_51 ?_
              have h := h.2
              refine lv_if_eq (tgt := 59) hx hb dX9_count_52 (by decide) (fun c_ => ?_) (fun c_ => ?_)
              · have h := h.1 c_
                refine lv_iconst (v := (0 : Int32)) hx hb dX9_count_59 (by decide) ?_
                exact j60 v4 v3 (0 : Int32) _ _ hP hD hS _ (lv_sub hl [0, 1, 3] rfl) h
              · have h := h.2 c_
                refine lv_iconst (v := (1 : Int32)) hx hb dX9_count_55 (by decide) ?_
                refine lv_goto (tgt := 60) hx hb dX9_count_56 (by decide) ?_
                exact j60 v4 v3 (1 : Int32) _ _ hP hD hS _ (lv_sub hl [0, 1, 3] rfl) h
        refine lv_iconst (v := (0 : Int32)) hx hb dX9_count_29 (by decide) ?_
        refine lv_istore (lv' := [(4, .int (0 : Int32)), (3, .int (0 : Int32)), (0, .ref q_t), (1, .int a1), (2, .int a2)]) hx hb dX9_count_30 hl (by decide) rfl (fun ls hl => ?_)
        obtain ⟨n, h⟩ := h
        exact lp32 t_cells a1 n (0 : Int32) (0 : Int32) _ _ hP hD hS _ (lv_sub hl [2, 3, 1, 0] rfl) h
    · have h := h.1 c_
      refine lv_iconst (v := (-1 : Int32)) hx hb dX9_count_19 (by decide) ?_
      exact W.iret (v := (-1 : Int32)) hx hb hr (fun t ht hW => ⟨⟨(-1 : Int32), t_cells, rfl, h, by rw [ht]; exact hP, hD⟩, hS.F ht⟩) hS.2.2 dX9_count_20
set_option maxHeartbeats 4000000 in
set_option maxRecDepth 100000 in
theorem c_X9_grid (l : Launch) (D : va_G) (cy : Nat → ClassId) (q_t_lanes q_t_sizes q_t_items q_t_spare q_t_many q_t_px q_t_py q_t_pz q_t_strip q_t_kind q_t_byHand q_t_round q_t_lost q_t_shifts q_t_matrix q_t_right q_t_found q_t_high q_t_near q_t_cells q_t_part q_t_before q_t_tape q_t_what q_t_numbers q_t : Nat) (t_highs : Int32) (t_taped : Int32) (t_at : Int32) (t_fault : Int32) (t_steps : Int32) (t_cells : Nat → Int32) (t_many : Nat → Int32) (t_px : Nat → Int32) (t_py : Nat → Int32) (t_pz : Nat → Int32) (t_strip : Nat → Int32) (t_shifts : Nat → Int32) (t_kind : Nat → Int32) (a1 : Int32) (a2 : Int32) (a3 : Int32) (sz : Nat) (Q : Int32 → (Nat → Int32) → Prop) (h : wp_X9_grid t_cells t_many t_px t_py t_pz t_strip t_shifts t_kind a1 a2 a3 Q) : Met l yX9_grid wsX9_grid ({ frames := 2, cells := 0, slots := 0, locals := 46 } : Room) (py_Pw ([.ref q_t, .int a1, .int a2, .int a3] : List Value) D cy [(q_t, .inr (9, [.ref q_t_lanes, .ref q_t_sizes, .ref q_t_items, .ref q_t_spare, .ref q_t_many, .ref q_t_px, .ref q_t_py, .ref q_t_pz, .ref q_t_strip, .ref q_t_kind, .ref q_t_byHand, .ref q_t_round, .ref q_t_lost, .ref q_t_shifts, .ref q_t_matrix, .ref q_t_right, .ref q_t_found, .ref q_t_high, .int t_highs, .ref q_t_near, .ref q_t_cells, .ref q_t_part, .ref q_t_before, .ref q_t_tape, .int t_taped, .int t_at, .int t_fault, .int t_steps, .ref q_t_what, .ref q_t_numbers])), (q_t_cells, .inl (cy 0, (256, .inl t_cells))), (q_t_many, .inl (cy 0, (2, .inl t_many))), (q_t_px, .inl (cy 0, (200, .inl t_px))), (q_t_py, .inl (cy 0, (200, .inl t_py))), (q_t_pz, .inl (cy 0, (200, .inl t_pz))), (q_t_strip, .inl (cy 0, (200, .inl t_strip))), (q_t_shifts, .inl (cy 0, (8, .inl t_shifts))), (q_t_kind, .inl (cy 0, (200, .inl t_kind)))] sz) (va_Qi (fun (r : Int32) (u : (Nat → Int32)) => Q r u) (py_B D (fun (u : (Nat → Int32)) => [(q_t, .inr (9, [.ref q_t_lanes, .ref q_t_sizes, .ref q_t_items, .ref q_t_spare, .ref q_t_many, .ref q_t_px, .ref q_t_py, .ref q_t_pz, .ref q_t_strip, .ref q_t_kind, .ref q_t_byHand, .ref q_t_round, .ref q_t_lost, .ref q_t_shifts, .ref q_t_matrix, .ref q_t_right, .ref q_t_found, .ref q_t_high, .int t_highs, .ref q_t_near, .ref q_t_cells, .ref q_t_part, .ref q_t_before, .ref q_t_tape, .int t_taped, .int t_at, .int t_fault, .int t_steps, .ref q_t_what, .ref q_t_numbers])), (q_t_cells, .inl (cy 0, (256, .inl u))), (q_t_many, .inl (cy 0, (2, .inl t_many))), (q_t_px, .inl (cy 0, (200, .inl t_px))), (q_t_py, .inl (cy 0, (200, .inl t_py))), (q_t_pz, .inl (cy 0, (200, .inl t_pz))), (q_t_strip, .inl (cy 0, (200, .inl t_strip))), (q_t_shifts, .inl (cy 0, (8, .inl t_shifts))), (q_t_kind, .inl (cy 0, (200, .inl t_kind)))]) (va_A [(q_t, .inr (9, [.ref q_t_lanes, .ref q_t_sizes, .ref q_t_items, .ref q_t_spare, .ref q_t_many, .ref q_t_px, .ref q_t_py, .ref q_t_pz, .ref q_t_strip, .ref q_t_kind, .ref q_t_byHand, .ref q_t_round, .ref q_t_lost, .ref q_t_shifts, .ref q_t_matrix, .ref q_t_right, .ref q_t_found, .ref q_t_high, .int t_highs, .ref q_t_near, .ref q_t_cells, .ref q_t_part, .ref q_t_before, .ref q_t_tape, .int t_taped, .int t_at, .int t_fault, .int t_steps, .ref q_t_what, .ref q_t_numbers])), (q_t_cells, .inl (cy 0, (256, .inl t_cells))), (q_t_many, .inl (cy 0, (2, .inl t_many))), (q_t_px, .inl (cy 0, (200, .inl t_px))), (q_t_py, .inl (cy 0, (200, .inl t_py))), (q_t_pz, .inl (cy 0, (200, .inl t_pz))), (q_t_strip, .inl (cy 0, (200, .inl t_strip))), (q_t_shifts, .inl (cy 0, (8, .inl t_shifts))), (q_t_kind, .inl (cy 0, (200, .inl t_kind)))] sz)) (va_A [(q_t, .inr (9, [.ref q_t_lanes, .ref q_t_sizes, .ref q_t_items, .ref q_t_spare, .ref q_t_many, .ref q_t_px, .ref q_t_py, .ref q_t_pz, .ref q_t_strip, .ref q_t_kind, .ref q_t_byHand, .ref q_t_round, .ref q_t_lost, .ref q_t_shifts, .ref q_t_matrix, .ref q_t_right, .ref q_t_found, .ref q_t_high, .int t_highs, .ref q_t_near, .ref q_t_cells, .ref q_t_part, .ref q_t_before, .ref q_t_tape, .int t_taped, .int t_at, .int t_fault, .int t_steps, .ref q_t_what, .ref q_t_numbers])), (q_t_cells, .inl (cy 0, (256, .inl t_cells))), (q_t_many, .inl (cy 0, (2, .inl t_many))), (q_t_px, .inl (cy 0, (200, .inl t_px))), (q_t_py, .inl (cy 0, (200, .inl t_py))), (q_t_pz, .inl (cy 0, (200, .inl t_pz))), (q_t_strip, .inl (cy 0, (200, .inl t_strip))), (q_t_shifts, .inl (cy 0, (8, .inl t_shifts))), (q_t_kind, .inl (cy 0, (200, .inl t_kind)))] sz)) 0 0 (va_A [(q_t, .inr (9, [.ref q_t_lanes, .ref q_t_sizes, .ref q_t_items, .ref q_t_spare, .ref q_t_many, .ref q_t_px, .ref q_t_py, .ref q_t_pz, .ref q_t_strip, .ref q_t_kind, .ref q_t_byHand, .ref q_t_round, .ref q_t_lost, .ref q_t_shifts, .ref q_t_matrix, .ref q_t_right, .ref q_t_found, .ref q_t_high, .int t_highs, .ref q_t_near, .ref q_t_cells, .ref q_t_part, .ref q_t_before, .ref q_t_tape, .int t_taped, .int t_at, .int t_fault, .int t_steps, .ref q_t_what, .ref q_t_numbers])), (q_t_cells, .inl (cy 0, (256, .inl t_cells))), (q_t_many, .inl (cy 0, (2, .inl t_many))), (q_t_px, .inl (cy 0, (200, .inl t_px))), (q_t_py, .inl (cy 0, (200, .inl t_py))), (q_t_pz, .inl (cy 0, (200, .inl t_pz))), (q_t_strip, .inl (cy 0, (200, .inl t_strip))), (q_t_shifts, .inl (cy 0, (8, .inl t_shifts))), (q_t_kind, .inl (cy 0, (200, .inl t_kind)))] sz) := by
  refine Met.ofW (cc := cX9_grid) (maxL := 4) (ret := (some .int)) (by decide) rfl ?_
  intro p e s m args below meth c s₁ B hml hv
  obtain ⟨rfl, hsz, hP, hKK, hD0⟩ := hv
  have hK := hKK.1
  have hN := hKK.2
  have hx := B.exec
  have hb := B.bytes
  have hr := B.returns
  have hts := atoms_spec (ws := wsX9_grid) B.pre
  have hown : s.vm.findClass RX9 = some m.cls := findClass_of_methodNamed B.named
  have hlocks := B.notSynchronized
  have hi_X9 : ∀ w ∈ wsX90, w ∈ wsX9_grid := fun w h => List.mem_cons_of_mem _ (List.mem_append_right _ (h))
  subst hsz
  have hD := hD0.self (sz := s.heap.size)
  generalize hAe : va_A [(q_t, .inr (9, [.ref q_t_lanes, .ref q_t_sizes, .ref q_t_items, .ref q_t_spare, .ref q_t_many, .ref q_t_px, .ref q_t_py, .ref q_t_pz, .ref q_t_strip, .ref q_t_kind, .ref q_t_byHand, .ref q_t_round, .ref q_t_lost, .ref q_t_shifts, .ref q_t_matrix, .ref q_t_right, .ref q_t_found, .ref q_t_high, .int t_highs, .ref q_t_near, .ref q_t_cells, .ref q_t_part, .ref q_t_before, .ref q_t_tape, .int t_taped, .int t_at, .int t_fault, .int t_steps, .ref q_t_what, .ref q_t_numbers])), (q_t_cells, .inl (cy 0, (256, .inl t_cells))), (q_t_many, .inl (cy 0, (2, .inl t_many))), (q_t_px, .inl (cy 0, (200, .inl t_px))), (q_t_py, .inl (cy 0, (200, .inl t_py))), (q_t_pz, .inl (cy 0, (200, .inl t_pz))), (q_t_strip, .inl (cy 0, (200, .inl t_strip))), (q_t_shifts, .inl (cy 0, (8, .inl t_shifts))), (q_t_kind, .inl (cy 0, (200, .inl t_kind)))] s.heap.size = A at hD ⊢
  have hA : ∀ q : Nat, s.heap.size ≤ q → A q := fun q h => by rw [← hAe]; exact Or.inr h
  have hS : va_S A s.heap s.heap [] := va_S.rf
  have hl := lv_entry ([.ref q_t, .int a1, .int a2, .int a3] : List Value) (n := 4) (Nat.le_of_ble_eq_true rfl)
  rw [lg_entry_eq]
  generalize (lg_sl ([.ref q_t, .int a1, .int a2, .int a3] : List Value) ++ List.replicate (4 - (lg_sl ([.ref q_t, .int a1, .int a2, .int a3] : List Value)).length) Slot.unset).toArray = ls at hl ⊢
  have hl : lv_has ls 4 [(0, .ref q_t), (1, .int a1), (2, .int a2), (3, .int a3)] := hl
  unfold wp_X9_grid at h
  refine lv_iload_n hx hb dX9_grid_0 rfl (lv_at hl 1 rfl) ?_
  refine py_ci (py_rSp (As := [.int a1]) ⟨hx, hb, hml, hown, hts⟩ hKK hP [] rfl (c_X9_isYear l D cy a1 _ h) (va_cwS 1 hts gX9_grid_X9_isYear rfl rfl rfl cd_X9_isYear ⟨Nat.le_of_ble_eq_true rfl, Nat.le_of_ble_eq_true rfl⟩) rfl hl.1 rfl (Nat.le_of_ble_eq_true rfl) ⟨Nat.zero_le _, Nat.zero_le _⟩ dX9_grid_1) (fun r_1 h => ?_)
  refine lv_if_eq (tgt := 31) hx hb dX9_grid_4 (by decide) (fun c_ => ?_) (fun c_ => ?_)
  · have h := h.1 c_
    refine lv_sipush (v := (-10001 : Int32)) hx hb dX9_grid_31 (by decide) ?_
    exact W.iret (v := (-10001 : Int32)) hx hb hr (fun t ht hW => ⟨⟨(-10001 : Int32), t_cells, rfl, h, by rw [ht]; exact hP, hD⟩, hS.F ht⟩) hS.2.2 dX9_grid_34
  · have h := h.2 c_
    refine lv_iload_n hx hb dX9_grid_7 rfl (lv_at hl 2 rfl) ?_
    refine lv_i2l (v := (a2.toInt64)) hx hb dX9_grid_8 rfl ?_
    refine lv_lconst (v := (0 : Int64)) hx hb dX9_grid_9 (by decide) ?_
    refine lv_ldc2 (v := (15 : Int64)) hx hb hown (hts (.constantLong RX9 131 (15)) (List.mem_of_getElem? (i := 1) rfl)) dX9_grid_10 ?_
    refine py_ci (py_rSp (As := [.long (a2.toInt64), .long (0 : Int64), .long (15 : Int64)]) ⟨hx, hb, hml, hown, hts⟩ hKK hP [] rfl (c_X9_in l D cy (a2.toInt64) (0 : Int64) (15 : Int64) _ h) (va_cwS 3 hts gX9_grid_X9_in rfl rfl rfl cd_X9_in ⟨Nat.le_of_ble_eq_true rfl, Nat.le_of_ble_eq_true rfl⟩) rfl hl.1 rfl (Nat.le_of_ble_eq_true rfl) ⟨Nat.zero_le _, Nat.zero_le _⟩ dX9_grid_13) (fun r_2 h => ?_)
    refine lv_if_eq (tgt := 31) hx hb dX9_grid_16 (by decide) (fun c_ => ?_) (fun c_ => ?_)
    · have h := h.1 c_
      refine lv_sipush (v := (-10001 : Int32)) hx hb dX9_grid_31 (by decide) ?_
      exact W.iret (v := (-10001 : Int32)) hx hb hr (fun t ht hW => ⟨⟨(-10001 : Int32), t_cells, rfl, h, by rw [ht]; exact hP, hD⟩, hS.F ht⟩) hS.2.2 dX9_grid_34
    · have h := h.2 c_
      refine lv_iload_n hx hb dX9_grid_19 rfl (lv_at hl 3 rfl) ?_
      refine lv_i2l (v := (a3.toInt64)) hx hb dX9_grid_20 rfl ?_
      refine lv_lconst (v := (0 : Int64)) hx hb dX9_grid_21 (by decide) ?_
      refine lv_ldc2 (v := (15 : Int64)) hx hb hown (hts (.constantLong RX9 131 (15)) (List.mem_of_getElem? (i := 1) rfl)) dX9_grid_22 ?_
      refine py_ci (py_rSp (As := [.long (a3.toInt64), .long (0 : Int64), .long (15 : Int64)]) ⟨hx, hb, hml, hown, hts⟩ hKK hP [] rfl (c_X9_in l D cy (a3.toInt64) (0 : Int64) (15 : Int64) _ h) (va_cwS 3 hts gX9_grid_X9_in rfl rfl rfl cd_X9_in ⟨Nat.le_of_ble_eq_true rfl, Nat.le_of_ble_eq_true rfl⟩) rfl hl.1 rfl (Nat.le_of_ble_eq_true rfl) ⟨Nat.zero_le _, Nat.zero_le _⟩ dX9_grid_25) (fun r_3 h => ?_)
      refine lv_if_ne (tgt := 35) hx hb dX9_grid_28 (by decide) (fun c_ => ?_) (fun c_ => ?_)
      · have h := h.2 c_
        refine lv_aload_n hx hb dX9_grid_35 rfl (lv_at hl 0 rfl) ?_
        refine lv_iload_n hx hb dX9_grid_36 rfl (lv_at hl 1 rfl) ?_
        refine py_wv (wr := []) (py_rVw (As := [.int a1]) ⟨hx, hb, hml, hown, hts⟩ hKK hP hD [0, 1, 2, 3, 4, 5, 6, 7, 8] rfl rfl rfl 0 9 rfl rfl (c_X9_findGrid l D cy q_t_lanes q_t_sizes q_t_items q_t_spare q_t_many q_t_px q_t_py q_t_pz q_t_strip q_t_kind q_t_byHand q_t_round q_t_lost q_t_shifts q_t_matrix q_t_right q_t_found q_t_high q_t_near q_t_cells q_t_part q_t_before q_t_tape q_t_what q_t_numbers q_t t_highs t_taped t_at t_fault t_steps t_cells t_many t_px t_py t_pz t_strip t_shifts t_kind a1 s.heap.size _ h) (cwV 1 hts gX9_grid_X9_findGrid rfl rfl rfl cdv_X9_findGrid ⟨Nat.le_of_ble_eq_true rfl, Nat.le_of_ble_eq_true rfl⟩) rfl hl.1 rfl (Nat.le_of_ble_eq_true rfl) ⟨Nat.zero_le _, Nat.zero_le _⟩ dX9_grid_37) hP hD hS hA [0, 1, 2, 3, 4, 5, 6, 7, 8] [] rfl rfl rfl (by decide) (fun u H locs h hP hD hS => ?_)
        obtain ⟨c_cells_5, rfl⟩ : ∃ z, z = u := ⟨_, rfl⟩
        have hP := hP.sub (ws' := [(q_t, .inr (9, [.ref q_t_lanes, .ref q_t_sizes, .ref q_t_items, .ref q_t_spare, .ref q_t_many, .ref q_t_px, .ref q_t_py, .ref q_t_pz, .ref q_t_strip, .ref q_t_kind, .ref q_t_byHand, .ref q_t_round, .ref q_t_lost, .ref q_t_shifts, .ref q_t_matrix, .ref q_t_right, .ref q_t_found, .ref q_t_high, .int t_highs, .ref q_t_near, .ref q_t_cells, .ref q_t_part, .ref q_t_before, .ref q_t_tape, .int t_taped, .int t_at, .int t_fault, .int t_steps, .ref q_t_what, .ref q_t_numbers])), (q_t_cells, .inl (cy 0, (256, .inl c_cells_5))), (q_t_many, .inl (cy 0, (2, .inl t_many))), (q_t_px, .inl (cy 0, (200, .inl t_px))), (q_t_py, .inl (cy 0, (200, .inl t_py))), (q_t_pz, .inl (cy 0, (200, .inl t_pz))), (q_t_strip, .inl (cy 0, (200, .inl t_strip))), (q_t_shifts, .inl (cy 0, (8, .inl t_shifts))), (q_t_kind, .inl (cy 0, (200, .inl t_kind)))]) [0, 1, 2, 3, 4, 5, 6, 7, 8] rfl
        have hD := hD.sub (ws' := [(q_t, .inr (9, [.ref q_t_lanes, .ref q_t_sizes, .ref q_t_items, .ref q_t_spare, .ref q_t_many, .ref q_t_px, .ref q_t_py, .ref q_t_pz, .ref q_t_strip, .ref q_t_kind, .ref q_t_byHand, .ref q_t_round, .ref q_t_lost, .ref q_t_shifts, .ref q_t_matrix, .ref q_t_right, .ref q_t_found, .ref q_t_high, .int t_highs, .ref q_t_near, .ref q_t_cells, .ref q_t_part, .ref q_t_before, .ref q_t_tape, .int t_taped, .int t_at, .int t_fault, .int t_steps, .ref q_t_what, .ref q_t_numbers])), (q_t_cells, .inl (cy 0, (256, .inl c_cells_5))), (q_t_many, .inl (cy 0, (2, .inl t_many))), (q_t_px, .inl (cy 0, (200, .inl t_px))), (q_t_py, .inl (cy 0, (200, .inl t_py))), (q_t_pz, .inl (cy 0, (200, .inl t_pz))), (q_t_strip, .inl (cy 0, (200, .inl t_strip))), (q_t_shifts, .inl (cy 0, (8, .inl t_shifts))), (q_t_kind, .inl (cy 0, (200, .inl t_kind)))]) [0, 1, 2, 3, 4, 5, 6, 7, 8] rfl rfl
        refine lv_aload_n hx hb dX9_grid_40 rfl (lv_at hl 0 rfl) ?_
        refine va_get (D := D) (ci := 9) (C := RX9) (T := TX9) (N := 30) hx hb hts hi_X9 hown hK hP 0 rfl rfl 20 (by decide) (hts (.fieldLink RX9 69 "RayGroundModel" "cells" "[I") (List.mem_of_getElem? (i := 2) rfl)) (fun _ h9 => h9) rfl dX9_grid_41 ?_
        refine lv_iload_n hx hb dX9_grid_44 rfl (lv_at hl 2 rfl) ?_
        refine lv_bipush (v := (16 : Int32)) hx hb dX9_grid_45 (by decide) ?_
        refine lv_iload_n hx hb dX9_grid_47 rfl (lv_at hl 3 rfl) ?_
        refine lv_imul hx hb dX9_grid_48 ?_
        refine lv_iadd hx hb dX9_grid_49 ?_
        refine py_iald hx hb hK hP 1 0 rfl rfl (k := (a2 + ((16 : Int32) * a3)).toNatClampNeg) rfl h.1 dX9_grid_50 ?_
        have h := h.2
        exact W.iret (v := (c_cells_5 ((a2 + ((16 : Int32) * a3)).toNatClampNeg))) hx hb hr (fun t ht hW => ⟨⟨(c_cells_5 ((a2 + ((16 : Int32) * a3)).toNatClampNeg)), c_cells_5, rfl, h, by rw [ht]; exact hP, hD⟩, hS.F ht⟩) hS.2.2 dX9_grid_51
      · have h := h.1 c_
        refine lv_sipush (v := (-10001 : Int32)) hx hb dX9_grid_31 (by decide) ?_
        exact W.iret (v := (-10001 : Int32)) hx hb hr (fun t ht hW => ⟨⟨(-10001 : Int32), t_cells, rfl, h, by rw [ht]; exact hP, hD⟩, hS.F ht⟩) hS.2.2 dX9_grid_34
set_option maxHeartbeats 4000000 in
set_option maxRecDepth 100000 in
theorem c_X9_isFour (l : Launch) (D : va_G) (cy : Nat → ClassId) (q_t_lanes q_t_sizes q_t_items q_t_spare q_t_many q_t_px q_t_py q_t_pz q_t_strip q_t_kind q_t_byHand q_t_round q_t_lost q_t_shifts q_t_matrix q_t_right q_t_found q_t_high q_t_near q_t_cells q_t_part q_t_before q_t_tape q_t_what q_t_numbers q_t : Nat) (t_highs : Int32) (t_taped : Int32) (t_at : Int32) (t_fault : Int32) (t_steps : Int32) (t_cells : Nat → Int32) (a1 : Int32) (a2 : Int32) (Q : Int32 → Prop) (h : wp_X9_isFour t_cells a1 a2 Q) : Met l yX9_isFour wsX9_isFour ({ frames := 1, cells := 0, slots := 0, locals := 25 } : Room) (py_Pp ([.ref q_t, .int a1, .int a2] : List Value) D cy [(q_t, .inr (9, [.ref q_t_lanes, .ref q_t_sizes, .ref q_t_items, .ref q_t_spare, .ref q_t_many, .ref q_t_px, .ref q_t_py, .ref q_t_pz, .ref q_t_strip, .ref q_t_kind, .ref q_t_byHand, .ref q_t_round, .ref q_t_lost, .ref q_t_shifts, .ref q_t_matrix, .ref q_t_right, .ref q_t_found, .ref q_t_high, .int t_highs, .ref q_t_near, .ref q_t_cells, .ref q_t_part, .ref q_t_before, .ref q_t_tape, .int t_taped, .int t_at, .int t_fault, .int t_steps, .ref q_t_what, .ref q_t_numbers])), (q_t_cells, .inl (cy 0, (256, .inl t_cells)))]) (vp_Si Q) 0 0 (fun _ => False) := by
  refine Met.ofW (cc := cX9_isFour) (maxL := 3) (ret := (some .boolean)) (by decide) rfl ?_
  intro p e s m args below meth c s₁ B hml hv
  obtain ⟨rfl, hP, hKK⟩ := hv
  have hK := hKK.1
  have hN := hKK.2
  have hx := B.exec
  have hb := B.bytes
  have hr := B.returns
  have hts := atoms_spec (ws := wsX9_isFour) B.pre
  have hown : s.vm.findClass RX9 = some m.cls := findClass_of_methodNamed B.named
  have hlocks := B.notSynchronized
  have hi_X9 : ∀ w ∈ wsX90, w ∈ wsX9_isFour := fun w h => List.mem_cons_of_mem _ (List.mem_append_right _ (h))
  have hl := lv_entry ([.ref q_t, .int a1, .int a2] : List Value) (n := 3) (Nat.le_of_ble_eq_true rfl)
  rw [lg_entry_eq]
  generalize (lg_sl ([.ref q_t, .int a1, .int a2] : List Value) ++ List.replicate (3 - (lg_sl ([.ref q_t, .int a1, .int a2] : List Value)).length) Slot.unset).toArray = ls at hl ⊢
  have hl : lv_has ls 3 [(0, .ref q_t), (1, .int a1), (2, .int a2)] := hl
  unfold wp_X9_isFour at h
  have j100 : ∀ (ls : Array Slot), lv_has ls 3 [] → wp_X9_isFour_b100 Q → W p l e (headSpec wsX9_isFour ({ frames := 1, cells := 0, slots := 0, locals := 25 } : Room)).room s m (([.ref q_t, .int a1, .int a2] : List Value)).toArray below meth c s.heap [] 0 0 (MQ below (vp_Si Q) (([.ref q_t, .int a1, .int a2] : List Value)).toArray s 0 0 (fun _ => False)) (F0 m 100 ls []) := by
    intro ls hl h
    unfold wp_X9_isFour_b100 at h
    refine lv_iconst (v := (0 : Int32)) hx hb dX9_isFour_100 (by decide) ?_
    exact W.zret (v := (0 : Int32)) hx hb hr rfl (fun t ht hW => ⟨(0 : Int32), rfl, h, ht⟩) (fun _ hq => by cases hq) dX9_isFour_101
  refine lv_iload_n hx hb dX9_isFour_0 rfl (lv_at hl 1 rfl) ?_
  refine lv_i2l (v := (a1.toInt64)) hx hb dX9_isFour_1 rfl ?_
  refine lv_lconst (v := (0 : Int64)) hx hb dX9_isFour_2 (by decide) ?_
  refine lv_ldc2 (v := (14 : Int64)) hx hb hown (hts (.constantLong RX9 210 (14)) (List.mem_of_getElem? (i := 1) rfl)) dX9_isFour_3 ?_
  refine py_ci (py_rSp (As := [.long (a1.toInt64), .long (0 : Int64), .long (14 : Int64)]) ⟨hx, hb, hml, hown, hts⟩ hKK hP [] rfl (c_X9_in l D cy (a1.toInt64) (0 : Int64) (14 : Int64) _ h) (va_cwS 3 hts gX9_isFour_X9_in rfl rfl rfl cd_X9_in ⟨Nat.le_of_ble_eq_true rfl, Nat.le_of_ble_eq_true rfl⟩) rfl hl.1 rfl (Nat.le_of_ble_eq_true rfl) ⟨Nat.zero_le _, Nat.zero_le _⟩ dX9_isFour_6) (fun r_1 h => ?_)
  refine lv_if_eq (tgt := 100) hx hb dX9_isFour_9 (by decide) (fun c_ => ?_) (fun c_ => ?_)
  · have h := h.1 c_
    exact j100 _ (lv_sub hl [] rfl) h
  · have h := h.2 c_
    refine lv_iload_n hx hb dX9_isFour_12 rfl (lv_at hl 2 rfl) ?_
    refine lv_i2l (v := (a2.toInt64)) hx hb dX9_isFour_13 rfl ?_
    refine lv_lconst (v := (0 : Int64)) hx hb dX9_isFour_14 (by decide) ?_
    refine lv_ldc2 (v := (14 : Int64)) hx hb hown (hts (.constantLong RX9 210 (14)) (List.mem_of_getElem? (i := 1) rfl)) dX9_isFour_15 ?_
    refine py_ci (py_rSp (As := [.long (a2.toInt64), .long (0 : Int64), .long (14 : Int64)]) ⟨hx, hb, hml, hown, hts⟩ hKK hP [] rfl (c_X9_in l D cy (a2.toInt64) (0 : Int64) (14 : Int64) _ h) (va_cwS 3 hts gX9_isFour_X9_in rfl rfl rfl cd_X9_in ⟨Nat.le_of_ble_eq_true rfl, Nat.le_of_ble_eq_true rfl⟩) rfl hl.1 rfl (Nat.le_of_ble_eq_true rfl) ⟨Nat.zero_le _, Nat.zero_le _⟩ dX9_isFour_18) (fun r_2 h => ?_)
    refine lv_if_eq (tgt := 100) hx hb dX9_isFour_21 (by decide) (fun c_ => ?_) (fun c_ => ?_)
    · have h := h.1 c_
      exact j100 _ (lv_sub hl [] rfl) h
    · have h := h.2 c_
      refine lv_aload_n hx hb dX9_isFour_24 rfl (lv_at hl 0 rfl) ?_
      refine va_get (D := D) (ci := 9) (C := RX9) (T := TX9) (N := 30) hx hb hts hi_X9 hown hK hP 0 rfl rfl 20 (by decide) (hts (.fieldLink RX9 69 "RayGroundModel" "cells" "[I") (List.mem_of_getElem? (i := 2) rfl)) (fun _ h9 => h9) rfl dX9_isFour_25 ?_
      refine lv_iload_n hx hb dX9_isFour_28 rfl (lv_at hl 1 rfl) ?_
      refine lv_bipush (v := (16 : Int32)) hx hb dX9_isFour_29 (by decide) ?_
      refine lv_iload_n hx hb dX9_isFour_31 rfl (lv_at hl 2 rfl) ?_
      refine lv_imul hx hb dX9_isFour_32 ?_
      refine lv_iadd hx hb dX9_isFour_33 ?_
      refine py_iald hx hb hK hP 1 0 rfl rfl (k := (a1 + ((16 : Int32) * a2)).toNatClampNeg) rfl h.1 dX9_isFour_34 ?_
      have h := h.2
      refine lv_ldc (v := (100000 : Int32)) hx hb hown (hts (.constant RX9 204 (100000)) (List.mem_of_getElem? (i := 3) rfl)) dX9_isFour_35 ?_
      refine lv_icmp_eq (tgt := 100) hx hb dX9_isFour_37 (by decide) (fun c_ => ?_) (fun c_ => ?_)
      · have h := h.1 c_
        exact j100 _ (lv_sub hl [] rfl) h
      · have h := h.2 c_
        refine lv_aload_n hx hb dX9_isFour_40 rfl (lv_at hl 0 rfl) ?_
        refine va_get (D := D) (ci := 9) (C := RX9) (T := TX9) (N := 30) hx hb hts hi_X9 hown hK hP 0 rfl rfl 20 (by decide) (hts (.fieldLink RX9 69 "RayGroundModel" "cells" "[I") (List.mem_of_getElem? (i := 2) rfl)) (fun _ h9 => h9) rfl dX9_isFour_41 ?_
        refine lv_iload_n hx hb dX9_isFour_44 rfl (lv_at hl 1 rfl) ?_
        refine lv_iconst (v := (1 : Int32)) hx hb dX9_isFour_45 (by decide) ?_
        refine lv_iadd hx hb dX9_isFour_46 ?_
        refine lv_bipush (v := (16 : Int32)) hx hb dX9_isFour_47 (by decide) ?_
        refine lv_iload_n hx hb dX9_isFour_49 rfl (lv_at hl 2 rfl) ?_
        refine lv_imul hx hb dX9_isFour_50 ?_
        refine lv_iadd hx hb dX9_isFour_51 ?_
        refine py_iald hx hb hK hP 1 0 rfl rfl (k := ((a1 + (1 : Int32)) + ((16 : Int32) * a2)).toNatClampNeg) rfl h.1 dX9_isFour_52 ?_
        have h := h.2
        refine lv_ldc (v := (100000 : Int32)) hx hb hown (hts (.constant RX9 204 (100000)) (List.mem_of_getElem? (i := 3) rfl)) dX9_isFour_53 ?_
        refine lv_icmp_eq (tgt := 100) hx hb dX9_isFour_55 (by decide) (fun c_ => ?_) (fun c_ => ?_)
        · have h := h.1 c_
          exact j100 _ (lv_sub hl [] rfl) h
        · have h := h.2 c_
          refine lv_aload_n hx hb dX9_isFour_58 rfl (lv_at hl 0 rfl) ?_
          refine va_get (D := D) (ci := 9) (C := RX9) (T := TX9) (N := 30) hx hb hts hi_X9 hown hK hP 0 rfl rfl 20 (by decide) (hts (.fieldLink RX9 69 "RayGroundModel" "cells" "[I") (List.mem_of_getElem? (i := 2) rfl)) (fun _ h9 => h9) rfl dX9_isFour_59 ?_
          refine lv_iload_n hx hb dX9_isFour_62 rfl (lv_at hl 1 rfl) ?_
          refine lv_bipush (v := (16 : Int32)) hx hb dX9_isFour_63 (by decide) ?_
          refine lv_iload_n hx hb dX9_isFour_65 rfl (lv_at hl 2 rfl) ?_
          refine lv_imul hx hb dX9_isFour_66 ?_
          refine lv_iadd hx hb dX9_isFour_67 ?_
          refine lv_bipush (v := (16 : Int32)) hx hb dX9_isFour_68 (by decide) ?_
          refine lv_iadd hx hb dX9_isFour_70 ?_
          refine py_iald hx hb hK hP 1 0 rfl rfl (k := ((a1 + ((16 : Int32) * a2)) + (16 : Int32)).toNatClampNeg) rfl h.1 dX9_isFour_71 ?_
          have h := h.2
          refine lv_ldc (v := (100000 : Int32)) hx hb hown (hts (.constant RX9 204 (100000)) (List.mem_of_getElem? (i := 3) rfl)) dX9_isFour_72 ?_
          refine lv_icmp_eq (tgt := 100) hx hb dX9_isFour_74 (by decide) (fun c_ => ?_) (fun c_ => ?_)
          · have h := h.1 c_
            exact j100 _ (lv_sub hl [] rfl) h
          · have h := h.2 c_
            refine lv_aload_n hx hb dX9_isFour_77 rfl (lv_at hl 0 rfl) ?_
            refine va_get (D := D) (ci := 9) (C := RX9) (T := TX9) (N := 30) hx hb hts hi_X9 hown hK hP 0 rfl rfl 20 (by decide) (hts (.fieldLink RX9 69 "RayGroundModel" "cells" "[I") (List.mem_of_getElem? (i := 2) rfl)) (fun _ h9 => h9) rfl dX9_isFour_78 ?_
            refine lv_iload_n hx hb dX9_isFour_81 rfl (lv_at hl 1 rfl) ?_
            refine lv_bipush (v := (17 : Int32)) hx hb dX9_isFour_82 (by decide) ?_
            refine lv_iadd hx hb dX9_isFour_84 ?_
            refine lv_bipush (v := (16 : Int32)) hx hb dX9_isFour_85 (by decide) ?_
            refine lv_iload_n hx hb dX9_isFour_87 rfl (lv_at hl 2 rfl) ?_
            refine lv_imul hx hb dX9_isFour_88 ?_
            refine lv_iadd hx hb dX9_isFour_89 ?_
            refine py_iald hx hb hK hP 1 0 rfl rfl (k := ((a1 + (17 : Int32)) + ((16 : Int32) * a2)).toNatClampNeg) rfl h.1 dX9_isFour_90 ?_
            have h := h.2
            refine lv_ldc (v := (100000 : Int32)) hx hb hown (hts (.constant RX9 204 (100000)) (List.mem_of_getElem? (i := 3) rfl)) dX9_isFour_91 ?_
            refine lv_icmp_eq (tgt := 100) hx hb dX9_isFour_93 (by decide) (fun c_ => ?_) (fun c_ => ?_)
            · have h := h.1 c_
              exact j100 _ (lv_sub hl [] rfl) h
            · have h := h.2 c_
              refine lv_iconst (v := (1 : Int32)) hx hb dX9_isFour_96 (by decide) ?_
              refine lv_goto (tgt := 101) hx hb dX9_isFour_97 (by decide) ?_
              exact W.zret (v := (1 : Int32)) hx hb hr rfl (fun t ht hW => ⟨(1 : Int32), rfl, h, ht⟩) (fun _ hq => by cases hq) dX9_isFour_101
set_option maxHeartbeats 4000000 in
set_option maxRecDepth 100000 in
theorem c_X9_volume (l : Launch) (D : va_G) (cy : Nat → ClassId) (q_t_lanes q_t_sizes q_t_items q_t_spare q_t_many q_t_px q_t_py q_t_pz q_t_strip q_t_kind q_t_byHand q_t_round q_t_lost q_t_shifts q_t_matrix q_t_right q_t_found q_t_high q_t_near q_t_cells q_t_part q_t_before q_t_tape q_t_what q_t_numbers q_t : Nat) (t_highs : Int32) (t_taped : Int32) (t_at : Int32) (t_fault : Int32) (t_steps : Int32) (t_cells : Nat → Int32) (t_many : Nat → Int32) (t_px : Nat → Int32) (t_py : Nat → Int32) (t_pz : Nat → Int32) (t_strip : Nat → Int32) (t_shifts : Nat → Int32) (t_kind : Nat → Int32) (a1 : Int32) (a2 : Int32) (sz : Nat) (Q : Int64 → (Nat → Int32) → Prop) (h : wp_X9_volume t_cells t_many t_px t_py t_pz t_strip t_shifts t_kind a1 a2 Q) : Met l yX9_volume wsX9_volume ({ frames := 2, cells := 0, slots := 0, locals := 47 } : Room) (py_Pw ([.ref q_t, .int a1, .int a2] : List Value) D cy [(q_t, .inr (9, [.ref q_t_lanes, .ref q_t_sizes, .ref q_t_items, .ref q_t_spare, .ref q_t_many, .ref q_t_px, .ref q_t_py, .ref q_t_pz, .ref q_t_strip, .ref q_t_kind, .ref q_t_byHand, .ref q_t_round, .ref q_t_lost, .ref q_t_shifts, .ref q_t_matrix, .ref q_t_right, .ref q_t_found, .ref q_t_high, .int t_highs, .ref q_t_near, .ref q_t_cells, .ref q_t_part, .ref q_t_before, .ref q_t_tape, .int t_taped, .int t_at, .int t_fault, .int t_steps, .ref q_t_what, .ref q_t_numbers])), (q_t_cells, .inl (cy 0, (256, .inl t_cells))), (q_t_many, .inl (cy 0, (2, .inl t_many))), (q_t_px, .inl (cy 0, (200, .inl t_px))), (q_t_py, .inl (cy 0, (200, .inl t_py))), (q_t_pz, .inl (cy 0, (200, .inl t_pz))), (q_t_strip, .inl (cy 0, (200, .inl t_strip))), (q_t_shifts, .inl (cy 0, (8, .inl t_shifts))), (q_t_kind, .inl (cy 0, (200, .inl t_kind)))] sz) (va_Ql (fun (r : Int64) (u : (Nat → Int32)) => Q r u) (py_B D (fun (u : (Nat → Int32)) => [(q_t, .inr (9, [.ref q_t_lanes, .ref q_t_sizes, .ref q_t_items, .ref q_t_spare, .ref q_t_many, .ref q_t_px, .ref q_t_py, .ref q_t_pz, .ref q_t_strip, .ref q_t_kind, .ref q_t_byHand, .ref q_t_round, .ref q_t_lost, .ref q_t_shifts, .ref q_t_matrix, .ref q_t_right, .ref q_t_found, .ref q_t_high, .int t_highs, .ref q_t_near, .ref q_t_cells, .ref q_t_part, .ref q_t_before, .ref q_t_tape, .int t_taped, .int t_at, .int t_fault, .int t_steps, .ref q_t_what, .ref q_t_numbers])), (q_t_cells, .inl (cy 0, (256, .inl u))), (q_t_many, .inl (cy 0, (2, .inl t_many))), (q_t_px, .inl (cy 0, (200, .inl t_px))), (q_t_py, .inl (cy 0, (200, .inl t_py))), (q_t_pz, .inl (cy 0, (200, .inl t_pz))), (q_t_strip, .inl (cy 0, (200, .inl t_strip))), (q_t_shifts, .inl (cy 0, (8, .inl t_shifts))), (q_t_kind, .inl (cy 0, (200, .inl t_kind)))]) (va_A [(q_t, .inr (9, [.ref q_t_lanes, .ref q_t_sizes, .ref q_t_items, .ref q_t_spare, .ref q_t_many, .ref q_t_px, .ref q_t_py, .ref q_t_pz, .ref q_t_strip, .ref q_t_kind, .ref q_t_byHand, .ref q_t_round, .ref q_t_lost, .ref q_t_shifts, .ref q_t_matrix, .ref q_t_right, .ref q_t_found, .ref q_t_high, .int t_highs, .ref q_t_near, .ref q_t_cells, .ref q_t_part, .ref q_t_before, .ref q_t_tape, .int t_taped, .int t_at, .int t_fault, .int t_steps, .ref q_t_what, .ref q_t_numbers])), (q_t_cells, .inl (cy 0, (256, .inl t_cells))), (q_t_many, .inl (cy 0, (2, .inl t_many))), (q_t_px, .inl (cy 0, (200, .inl t_px))), (q_t_py, .inl (cy 0, (200, .inl t_py))), (q_t_pz, .inl (cy 0, (200, .inl t_pz))), (q_t_strip, .inl (cy 0, (200, .inl t_strip))), (q_t_shifts, .inl (cy 0, (8, .inl t_shifts))), (q_t_kind, .inl (cy 0, (200, .inl t_kind)))] sz)) (va_A [(q_t, .inr (9, [.ref q_t_lanes, .ref q_t_sizes, .ref q_t_items, .ref q_t_spare, .ref q_t_many, .ref q_t_px, .ref q_t_py, .ref q_t_pz, .ref q_t_strip, .ref q_t_kind, .ref q_t_byHand, .ref q_t_round, .ref q_t_lost, .ref q_t_shifts, .ref q_t_matrix, .ref q_t_right, .ref q_t_found, .ref q_t_high, .int t_highs, .ref q_t_near, .ref q_t_cells, .ref q_t_part, .ref q_t_before, .ref q_t_tape, .int t_taped, .int t_at, .int t_fault, .int t_steps, .ref q_t_what, .ref q_t_numbers])), (q_t_cells, .inl (cy 0, (256, .inl t_cells))), (q_t_many, .inl (cy 0, (2, .inl t_many))), (q_t_px, .inl (cy 0, (200, .inl t_px))), (q_t_py, .inl (cy 0, (200, .inl t_py))), (q_t_pz, .inl (cy 0, (200, .inl t_pz))), (q_t_strip, .inl (cy 0, (200, .inl t_strip))), (q_t_shifts, .inl (cy 0, (8, .inl t_shifts))), (q_t_kind, .inl (cy 0, (200, .inl t_kind)))] sz)) 0 0 (va_A [(q_t, .inr (9, [.ref q_t_lanes, .ref q_t_sizes, .ref q_t_items, .ref q_t_spare, .ref q_t_many, .ref q_t_px, .ref q_t_py, .ref q_t_pz, .ref q_t_strip, .ref q_t_kind, .ref q_t_byHand, .ref q_t_round, .ref q_t_lost, .ref q_t_shifts, .ref q_t_matrix, .ref q_t_right, .ref q_t_found, .ref q_t_high, .int t_highs, .ref q_t_near, .ref q_t_cells, .ref q_t_part, .ref q_t_before, .ref q_t_tape, .int t_taped, .int t_at, .int t_fault, .int t_steps, .ref q_t_what, .ref q_t_numbers])), (q_t_cells, .inl (cy 0, (256, .inl t_cells))), (q_t_many, .inl (cy 0, (2, .inl t_many))), (q_t_px, .inl (cy 0, (200, .inl t_px))), (q_t_py, .inl (cy 0, (200, .inl t_py))), (q_t_pz, .inl (cy 0, (200, .inl t_pz))), (q_t_strip, .inl (cy 0, (200, .inl t_strip))), (q_t_shifts, .inl (cy 0, (8, .inl t_shifts))), (q_t_kind, .inl (cy 0, (200, .inl t_kind)))] sz) := by
  refine Met.ofW (cc := cX9_volume) (maxL := 9) (ret := (some .long)) (by decide) rfl ?_
  intro p e s m args below meth c s₁ B hml hv
  obtain ⟨rfl, hsz, hP, hKK, hD0⟩ := hv
  have hK := hKK.1
  have hN := hKK.2
  have hx := B.exec
  have hb := B.bytes
  have hr := B.returns
  have hts := atoms_spec (ws := wsX9_volume) B.pre
  have hown : s.vm.findClass RX9 = some m.cls := findClass_of_methodNamed B.named
  have hlocks := B.notSynchronized
  have hi_X9 : ∀ w ∈ wsX90, w ∈ wsX9_volume := fun w h => List.mem_cons_of_mem _ (List.mem_append_right _ (h))
  subst hsz
  have hD := hD0.self (sz := s.heap.size)
  generalize hAe : va_A [(q_t, .inr (9, [.ref q_t_lanes, .ref q_t_sizes, .ref q_t_items, .ref q_t_spare, .ref q_t_many, .ref q_t_px, .ref q_t_py, .ref q_t_pz, .ref q_t_strip, .ref q_t_kind, .ref q_t_byHand, .ref q_t_round, .ref q_t_lost, .ref q_t_shifts, .ref q_t_matrix, .ref q_t_right, .ref q_t_found, .ref q_t_high, .int t_highs, .ref q_t_near, .ref q_t_cells, .ref q_t_part, .ref q_t_before, .ref q_t_tape, .int t_taped, .int t_at, .int t_fault, .int t_steps, .ref q_t_what, .ref q_t_numbers])), (q_t_cells, .inl (cy 0, (256, .inl t_cells))), (q_t_many, .inl (cy 0, (2, .inl t_many))), (q_t_px, .inl (cy 0, (200, .inl t_px))), (q_t_py, .inl (cy 0, (200, .inl t_py))), (q_t_pz, .inl (cy 0, (200, .inl t_pz))), (q_t_strip, .inl (cy 0, (200, .inl t_strip))), (q_t_shifts, .inl (cy 0, (8, .inl t_shifts))), (q_t_kind, .inl (cy 0, (200, .inl t_kind)))] s.heap.size = A at hD ⊢
  have hA : ∀ q : Nat, s.heap.size ≤ q → A q := fun q h => by rw [← hAe]; exact Or.inr h
  have hS : va_S A s.heap s.heap [] := va_S.rf
  have hl := lv_entry ([.ref q_t, .int a1, .int a2] : List Value) (n := 9) (Nat.le_of_ble_eq_true rfl)
  rw [lg_entry_eq]
  generalize (lg_sl ([.ref q_t, .int a1, .int a2] : List Value) ++ List.replicate (9 - (lg_sl ([.ref q_t, .int a1, .int a2] : List Value)).length) Slot.unset).toArray = ls at hl ⊢
  have hl : lv_has ls 9 [(0, .ref q_t), (1, .int a1), (2, .int a2)] := hl
  unfold wp_X9_volume at h
  refine lv_iload_n hx hb dX9_volume_0 rfl (lv_at hl 1 rfl) ?_
  refine py_ci (py_rSp (As := [.int a1]) ⟨hx, hb, hml, hown, hts⟩ hKK hP [] rfl (c_X9_isYear l D cy a1 _ h) (va_cwS 1 hts gX9_volume_X9_isYear rfl rfl rfl cd_X9_isYear ⟨Nat.le_of_ble_eq_true rfl, Nat.le_of_ble_eq_true rfl⟩) rfl hl.1 rfl (Nat.le_of_ble_eq_true rfl) ⟨Nat.zero_le _, Nat.zero_le _⟩ dX9_volume_1) (fun r_1 h => ?_)
  refine lv_if_eq (tgt := 21) hx hb dX9_volume_4 (by decide) (fun c_ => ?_) (fun c_ => ?_)
  · have h := h.1 c_
    refine lv_lconst (v := (0 : Int64)) hx hb dX9_volume_21 (by decide) ?_
    exact W.lret (v := (0 : Int64)) hx hb hr (fun t ht hW => ⟨⟨(0 : Int64), t_cells, rfl, h, by rw [ht]; exact hP, hD⟩, hS.F ht⟩) hS.2.2 dX9_volume_22
  · have h := h.2 c_
    refine lv_iload_n hx hb dX9_volume_7 rfl (lv_at hl 2 rfl) ?_
    refine lv_i2l (v := (a2.toInt64)) hx hb dX9_volume_8 rfl ?_
    refine lv_ldc2 (v := (-10000 : Int64)) hx hb hown (hts (.constantLong RX9 212 (-10000)) (List.mem_of_getElem? (i := 1) rfl)) dX9_volume_9 ?_
    refine lv_ldc2 (v := (10000 : Int64)) hx hb hown (hts (.constantLong RX9 214 (10000)) (List.mem_of_getElem? (i := 2) rfl)) dX9_volume_12 ?_
    refine py_ci (py_rSp (As := [.long (a2.toInt64), .long (-10000 : Int64), .long (10000 : Int64)]) ⟨hx, hb, hml, hown, hts⟩ hKK hP [] rfl (c_X9_in l D cy (a2.toInt64) (-10000 : Int64) (10000 : Int64) _ h) (va_cwS 3 hts gX9_volume_X9_in rfl rfl rfl cd_X9_in ⟨Nat.le_of_ble_eq_true rfl, Nat.le_of_ble_eq_true rfl⟩) rfl hl.1 rfl (Nat.le_of_ble_eq_true rfl) ⟨Nat.zero_le _, Nat.zero_le _⟩ dX9_volume_15) (fun r_2 h => ?_)
    refine lv_if_ne (tgt := 23) hx hb dX9_volume_18 (by decide) (fun c_ => ?_) (fun c_ => ?_)
    · have h := h.2 c_
      have j164 : ∀ (t_cells : Nat → Int32) (v3 : Int64) (H : Heap) (locs : List Loc), va_P D vwCl [(q_t, .inr (9, [.ref q_t_lanes, .ref q_t_sizes, .ref q_t_items, .ref q_t_spare, .ref q_t_many, .ref q_t_px, .ref q_t_py, .ref q_t_pz, .ref q_t_strip, .ref q_t_kind, .ref q_t_byHand, .ref q_t_round, .ref q_t_lost, .ref q_t_shifts, .ref q_t_matrix, .ref q_t_right, .ref q_t_found, .ref q_t_high, .int t_highs, .ref q_t_near, .ref q_t_cells, .ref q_t_part, .ref q_t_before, .ref q_t_tape, .int t_taped, .int t_at, .int t_fault, .int t_steps, .ref q_t_what, .ref q_t_numbers])), (q_t_cells, .inl (cy 0, (256, .inl t_cells))), (q_t_many, .inl (cy 0, (2, .inl t_many))), (q_t_px, .inl (cy 0, (200, .inl t_px))), (q_t_py, .inl (cy 0, (200, .inl t_py))), (q_t_pz, .inl (cy 0, (200, .inl t_pz))), (q_t_strip, .inl (cy 0, (200, .inl t_strip))), (q_t_shifts, .inl (cy 0, (8, .inl t_shifts))), (q_t_kind, .inl (cy 0, (200, .inl t_kind)))] H → va_D A [(q_t, .inr (9, [.ref q_t_lanes, .ref q_t_sizes, .ref q_t_items, .ref q_t_spare, .ref q_t_many, .ref q_t_px, .ref q_t_py, .ref q_t_pz, .ref q_t_strip, .ref q_t_kind, .ref q_t_byHand, .ref q_t_round, .ref q_t_lost, .ref q_t_shifts, .ref q_t_matrix, .ref q_t_right, .ref q_t_found, .ref q_t_high, .int t_highs, .ref q_t_near, .ref q_t_cells, .ref q_t_part, .ref q_t_before, .ref q_t_tape, .int t_taped, .int t_at, .int t_fault, .int t_steps, .ref q_t_what, .ref q_t_numbers])), (q_t_cells, .inl (cy 0, (256, .inl t_cells))), (q_t_many, .inl (cy 0, (2, .inl t_many))), (q_t_px, .inl (cy 0, (200, .inl t_px))), (q_t_py, .inl (cy 0, (200, .inl t_py))), (q_t_pz, .inl (cy 0, (200, .inl t_pz))), (q_t_strip, .inl (cy 0, (200, .inl t_strip))), (q_t_shifts, .inl (cy 0, (8, .inl t_shifts))), (q_t_kind, .inl (cy 0, (200, .inl t_kind)))] → va_S A s.heap H locs → ∀ (ls : Array Slot), lv_has ls 9 [(3, .long v3)] → wp_X9_volume_b164 Q t_cells v3 → W p l e (headSpec wsX9_volume ({ frames := 2, cells := 0, slots := 0, locals := 47 } : Room)).room s m (([.ref q_t, .int a1, .int a2] : List Value)).toArray below meth c H locs 0 0 (MQ below (va_Ql (fun (r : Int64) (u : (Nat → Int32)) => Q r u) (py_B D (fun (u : (Nat → Int32)) => [(q_t, .inr (9, [.ref q_t_lanes, .ref q_t_sizes, .ref q_t_items, .ref q_t_spare, .ref q_t_many, .ref q_t_px, .ref q_t_py, .ref q_t_pz, .ref q_t_strip, .ref q_t_kind, .ref q_t_byHand, .ref q_t_round, .ref q_t_lost, .ref q_t_shifts, .ref q_t_matrix, .ref q_t_right, .ref q_t_found, .ref q_t_high, .int t_highs, .ref q_t_near, .ref q_t_cells, .ref q_t_part, .ref q_t_before, .ref q_t_tape, .int t_taped, .int t_at, .int t_fault, .int t_steps, .ref q_t_what, .ref q_t_numbers])), (q_t_cells, .inl (cy 0, (256, .inl u))), (q_t_many, .inl (cy 0, (2, .inl t_many))), (q_t_px, .inl (cy 0, (200, .inl t_px))), (q_t_py, .inl (cy 0, (200, .inl t_py))), (q_t_pz, .inl (cy 0, (200, .inl t_pz))), (q_t_strip, .inl (cy 0, (200, .inl t_strip))), (q_t_shifts, .inl (cy 0, (8, .inl t_shifts))), (q_t_kind, .inl (cy 0, (200, .inl t_kind)))]) A) A) (([.ref q_t, .int a1, .int a2] : List Value)).toArray s 0 0 A) (F0 m 164 ls []) := by
        intro t_cells v3 H locs hP hD hS ls hl h
        unfold wp_X9_volume_b164 at h
        refine lv_ldc2 (v := (8 : Int64)) hx hb hown (hts (.constantLong RX9 219 (8)) (List.mem_of_getElem? (i := 5) rfl)) dX9_volume_164 ?_
        refine lv_lload_n hx hb dX9_volume_167 rfl (lv_at hl 0 rfl) ?_
        refine lv_lmul hx hb dX9_volume_168 ?_
        exact W.lret (v := ((8 : Int64) * v3)) hx hb hr (fun t ht hW => ⟨⟨((8 : Int64) * v3), t_cells, rfl, h, by rw [ht]; exact hP, hD⟩, hS.F ht⟩) hS.2.2 dX9_volume_169
      have lp33 : ∀ (t_cells : Nat → Int32) (v2 : Int32) (n33 : Nat) (v3 : Int64) (v5 : Int32) (H : Heap) (locs : List Loc), va_P D vwCl [(q_t, .inr (9, [.ref q_t_lanes, .ref q_t_sizes, .ref q_t_items, .ref q_t_spare, .ref q_t_many, .ref q_t_px, .ref q_t_py, .ref q_t_pz, .ref q_t_strip, .ref q_t_kind, .ref q_t_byHand, .ref q_t_round, .ref q_t_lost, .ref q_t_shifts, .ref q_t_matrix, .ref q_t_right, .ref q_t_found, .ref q_t_high, .int t_highs, .ref q_t_near, .ref q_t_cells, .ref q_t_part, .ref q_t_before, .ref q_t_tape, .int t_taped, .int t_at, .int t_fault, .int t_steps, .ref q_t_what, .ref q_t_numbers])), (q_t_cells, .inl (cy 0, (256, .inl t_cells))), (q_t_many, .inl (cy 0, (2, .inl t_many))), (q_t_px, .inl (cy 0, (200, .inl t_px))), (q_t_py, .inl (cy 0, (200, .inl t_py))), (q_t_pz, .inl (cy 0, (200, .inl t_pz))), (q_t_strip, .inl (cy 0, (200, .inl t_strip))), (q_t_shifts, .inl (cy 0, (8, .inl t_shifts))), (q_t_kind, .inl (cy 0, (200, .inl t_kind)))] H → va_D A [(q_t, .inr (9, [.ref q_t_lanes, .ref q_t_sizes, .ref q_t_items, .ref q_t_spare, .ref q_t_many, .ref q_t_px, .ref q_t_py, .ref q_t_pz, .ref q_t_strip, .ref q_t_kind, .ref q_t_byHand, .ref q_t_round, .ref q_t_lost, .ref q_t_shifts, .ref q_t_matrix, .ref q_t_right, .ref q_t_found, .ref q_t_high, .int t_highs, .ref q_t_near, .ref q_t_cells, .ref q_t_part, .ref q_t_before, .ref q_t_tape, .int t_taped, .int t_at, .int t_fault, .int t_steps, .ref q_t_what, .ref q_t_numbers])), (q_t_cells, .inl (cy 0, (256, .inl t_cells))), (q_t_many, .inl (cy 0, (2, .inl t_many))), (q_t_px, .inl (cy 0, (200, .inl t_px))), (q_t_py, .inl (cy 0, (200, .inl t_py))), (q_t_pz, .inl (cy 0, (200, .inl t_pz))), (q_t_strip, .inl (cy 0, (200, .inl t_strip))), (q_t_shifts, .inl (cy 0, (8, .inl t_shifts))), (q_t_kind, .inl (cy 0, (200, .inl t_kind)))] → va_S A s.heap H locs → ∀ (ls : Array Slot), lv_has ls 9 [(0, .ref q_t), (2, .int v2), (3, .long v3), (5, .int v5)] → wp_X9_volume_b33 (wp_X9_volume_b164 Q) t_cells v2 n33 v3 v5 → W p l e (headSpec wsX9_volume ({ frames := 2, cells := 0, slots := 0, locals := 47 } : Room)).room s m (([.ref q_t, .int a1, .int a2] : List Value)).toArray below meth c H locs 0 0 (MQ below (va_Ql (fun (r : Int64) (u : (Nat → Int32)) => Q r u) (py_B D (fun (u : (Nat → Int32)) => [(q_t, .inr (9, [.ref q_t_lanes, .ref q_t_sizes, .ref q_t_items, .ref q_t_spare, .ref q_t_many, .ref q_t_px, .ref q_t_py, .ref q_t_pz, .ref q_t_strip, .ref q_t_kind, .ref q_t_byHand, .ref q_t_round, .ref q_t_lost, .ref q_t_shifts, .ref q_t_matrix, .ref q_t_right, .ref q_t_found, .ref q_t_high, .int t_highs, .ref q_t_near, .ref q_t_cells, .ref q_t_part, .ref q_t_before, .ref q_t_tape, .int t_taped, .int t_at, .int t_fault, .int t_steps, .ref q_t_what, .ref q_t_numbers])), (q_t_cells, .inl (cy 0, (256, .inl u))), (q_t_many, .inl (cy 0, (2, .inl t_many))), (q_t_px, .inl (cy 0, (200, .inl t_px))), (q_t_py, .inl (cy 0, (200, .inl t_py))), (q_t_pz, .inl (cy 0, (200, .inl t_pz))), (q_t_strip, .inl (cy 0, (200, .inl t_strip))), (q_t_shifts, .inl (cy 0, (8, .inl t_shifts))), (q_t_kind, .inl (cy 0, (200, .inl t_kind)))]) A) A) (([.ref q_t, .int a1, .int a2] : List Value)).toArray s 0 0 A) (F0 m 33 ls []) := by
        intro t_cells v2 n33
        induction n33 with
        | zero => intro v3 v5 H locs hP hD hS ls hl h; exact False.elim h
        | succ n33 ih33 =>
          intro v3 v5 H locs hP hD hS ls hl h
          have h : wp_X9_volume_b33_f (wp_X9_volume_b33 (wp_X9_volume_b164 Q) t_cells v2 n33) (wp_X9_volume_b164 Q) t_cells v2 v3 v5 := h
          unfold wp_X9_volume_b33_f at h
          refine lv_iload hx hb dX9_volume_33 (lv_at hl 3 rfl) ?_
          refine lv_bipush (v := (15 : Int32)) hx hb dX9_volume_35 (by decide) ?_
          refine lv_icmp_ge (tgt := 164) hx hb dX9_volume_37 (by decide) (fun c_ => ?_) (fun c_ => ?_)
          · have h := h.1 c_
            exact j164 t_cells v3 _ _ hP hD hS _ (lv_sub hl [2] rfl) h
          · have h := h.2 c_
            have j158 : ∀ (v3 : Int64) (v5 : Int32) (H : Heap) (locs : List Loc), va_P D vwCl [(q_t, .inr (9, [.ref q_t_lanes, .ref q_t_sizes, .ref q_t_items, .ref q_t_spare, .ref q_t_many, .ref q_t_px, .ref q_t_py, .ref q_t_pz, .ref q_t_strip, .ref q_t_kind, .ref q_t_byHand, .ref q_t_round, .ref q_t_lost, .ref q_t_shifts, .ref q_t_matrix, .ref q_t_right, .ref q_t_found, .ref q_t_high, .int t_highs, .ref q_t_near, .ref q_t_cells, .ref q_t_part, .ref q_t_before, .ref q_t_tape, .int t_taped, .int t_at, .int t_fault, .int t_steps, .ref q_t_what, .ref q_t_numbers])), (q_t_cells, .inl (cy 0, (256, .inl t_cells))), (q_t_many, .inl (cy 0, (2, .inl t_many))), (q_t_px, .inl (cy 0, (200, .inl t_px))), (q_t_py, .inl (cy 0, (200, .inl t_py))), (q_t_pz, .inl (cy 0, (200, .inl t_pz))), (q_t_strip, .inl (cy 0, (200, .inl t_strip))), (q_t_shifts, .inl (cy 0, (8, .inl t_shifts))), (q_t_kind, .inl (cy 0, (200, .inl t_kind)))] H → va_D A [(q_t, .inr (9, [.ref q_t_lanes, .ref q_t_sizes, .ref q_t_items, .ref q_t_spare, .ref q_t_many, .ref q_t_px, .ref q_t_py, .ref q_t_pz, .ref q_t_strip, .ref q_t_kind, .ref q_t_byHand, .ref q_t_round, .ref q_t_lost, .ref q_t_shifts, .ref q_t_matrix, .ref q_t_right, .ref q_t_found, .ref q_t_high, .int t_highs, .ref q_t_near, .ref q_t_cells, .ref q_t_part, .ref q_t_before, .ref q_t_tape, .int t_taped, .int t_at, .int t_fault, .int t_steps, .ref q_t_what, .ref q_t_numbers])), (q_t_cells, .inl (cy 0, (256, .inl t_cells))), (q_t_many, .inl (cy 0, (2, .inl t_many))), (q_t_px, .inl (cy 0, (200, .inl t_px))), (q_t_py, .inl (cy 0, (200, .inl t_py))), (q_t_pz, .inl (cy 0, (200, .inl t_pz))), (q_t_strip, .inl (cy 0, (200, .inl t_strip))), (q_t_shifts, .inl (cy 0, (8, .inl t_shifts))), (q_t_kind, .inl (cy 0, (200, .inl t_kind)))] → va_S A s.heap H locs → ∀ (ls : Array Slot), lv_has ls 9 [(0, .ref q_t), (2, .int v2), (3, .long v3), (5, .int v5)] → wp_X9_volume_b158 (wp_X9_volume_b33 (wp_X9_volume_b164 Q) t_cells v2 n33) v3 v5 → W p l e (headSpec wsX9_volume ({ frames := 2, cells := 0, slots := 0, locals := 47 } : Room)).room s m (([.ref q_t, .int a1, .int a2] : List Value)).toArray below meth c H locs 0 0 (MQ below (va_Ql (fun (r : Int64) (u : (Nat → Int32)) => Q r u) (py_B D (fun (u : (Nat → Int32)) => [(q_t, .inr (9, [.ref q_t_lanes, .ref q_t_sizes, .ref q_t_items, .ref q_t_spare, .ref q_t_many, .ref q_t_px, .ref q_t_py, .ref q_t_pz, .ref q_t_strip, .ref q_t_kind, .ref q_t_byHand, .ref q_t_round, .ref q_t_lost, .ref q_t_shifts, .ref q_t_matrix, .ref q_t_right, .ref q_t_found, .ref q_t_high, .int t_highs, .ref q_t_near, .ref q_t_cells, .ref q_t_part, .ref q_t_before, .ref q_t_tape, .int t_taped, .int t_at, .int t_fault, .int t_steps, .ref q_t_what, .ref q_t_numbers])), (q_t_cells, .inl (cy 0, (256, .inl u))), (q_t_many, .inl (cy 0, (2, .inl t_many))), (q_t_px, .inl (cy 0, (200, .inl t_px))), (q_t_py, .inl (cy 0, (200, .inl t_py))), (q_t_pz, .inl (cy 0, (200, .inl t_pz))), (q_t_strip, .inl (cy 0, (200, .inl t_strip))), (q_t_shifts, .inl (cy 0, (8, .inl t_shifts))), (q_t_kind, .inl (cy 0, (200, .inl t_kind)))]) A) A) (([.ref q_t, .int a1, .int a2] : List Value)).toArray s 0 0 A) (F0 m 158 ls []) := by
              intro v3 v5 H locs hP hD hS ls hl h
              unfold wp_X9_volume_b158 at h
              obtain ⟨v5_3, ev5_3⟩ : ∃ y : Int32, y = v5 + (1 : Int32) := ⟨_, rfl⟩
              have h := h v5_3 ev5_3
              refine lv_iinc (v := v5_3) (lv' := [(5, .int v5_3), (0, .ref q_t), (2, .int v2), (3, .long v3)]) hx hb dX9_volume_158 hl (k := 3) rfl (by rw [ev5_3]; rfl) (by decide) rfl (fun ls hl => ?_)
              refine lv_goto (tgt := 33) hx hb dX9_volume_161 (by decide) ?_
              exact ih33 v3 v5_3 _ _ hP hD hS _ (lv_sub hl [1, 2, 3, 0] rfl) h
            have lp43 : ∀ (v5 : Int32) (n43 : Nat) (v3 : Int64) (v6 : Int32) (H : Heap) (locs : List Loc), va_P D vwCl [(q_t, .inr (9, [.ref q_t_lanes, .ref q_t_sizes, .ref q_t_items, .ref q_t_spare, .ref q_t_many, .ref q_t_px, .ref q_t_py, .ref q_t_pz, .ref q_t_strip, .ref q_t_kind, .ref q_t_byHand, .ref q_t_round, .ref q_t_lost, .ref q_t_shifts, .ref q_t_matrix, .ref q_t_right, .ref q_t_found, .ref q_t_high, .int t_highs, .ref q_t_near, .ref q_t_cells, .ref q_t_part, .ref q_t_before, .ref q_t_tape, .int t_taped, .int t_at, .int t_fault, .int t_steps, .ref q_t_what, .ref q_t_numbers])), (q_t_cells, .inl (cy 0, (256, .inl t_cells))), (q_t_many, .inl (cy 0, (2, .inl t_many))), (q_t_px, .inl (cy 0, (200, .inl t_px))), (q_t_py, .inl (cy 0, (200, .inl t_py))), (q_t_pz, .inl (cy 0, (200, .inl t_pz))), (q_t_strip, .inl (cy 0, (200, .inl t_strip))), (q_t_shifts, .inl (cy 0, (8, .inl t_shifts))), (q_t_kind, .inl (cy 0, (200, .inl t_kind)))] H → va_D A [(q_t, .inr (9, [.ref q_t_lanes, .ref q_t_sizes, .ref q_t_items, .ref q_t_spare, .ref q_t_many, .ref q_t_px, .ref q_t_py, .ref q_t_pz, .ref q_t_strip, .ref q_t_kind, .ref q_t_byHand, .ref q_t_round, .ref q_t_lost, .ref q_t_shifts, .ref q_t_matrix, .ref q_t_right, .ref q_t_found, .ref q_t_high, .int t_highs, .ref q_t_near, .ref q_t_cells, .ref q_t_part, .ref q_t_before, .ref q_t_tape, .int t_taped, .int t_at, .int t_fault, .int t_steps, .ref q_t_what, .ref q_t_numbers])), (q_t_cells, .inl (cy 0, (256, .inl t_cells))), (q_t_many, .inl (cy 0, (2, .inl t_many))), (q_t_px, .inl (cy 0, (200, .inl t_px))), (q_t_py, .inl (cy 0, (200, .inl t_py))), (q_t_pz, .inl (cy 0, (200, .inl t_pz))), (q_t_strip, .inl (cy 0, (200, .inl t_strip))), (q_t_shifts, .inl (cy 0, (8, .inl t_shifts))), (q_t_kind, .inl (cy 0, (200, .inl t_kind)))] → va_S A s.heap H locs → ∀ (ls : Array Slot), lv_has ls 9 [(0, .ref q_t), (2, .int v2), (3, .long v3), (5, .int v5), (6, .int v6)] → wp_X9_volume_b43 (wp_X9_volume_b158 (wp_X9_volume_b33 (wp_X9_volume_b164 Q) t_cells v2 n33)) t_cells v2 v5 n43 v3 v6 → W p l e (headSpec wsX9_volume ({ frames := 2, cells := 0, slots := 0, locals := 47 } : Room)).room s m (([.ref q_t, .int a1, .int a2] : List Value)).toArray below meth c H locs 0 0 (MQ below (va_Ql (fun (r : Int64) (u : (Nat → Int32)) => Q r u) (py_B D (fun (u : (Nat → Int32)) => [(q_t, .inr (9, [.ref q_t_lanes, .ref q_t_sizes, .ref q_t_items, .ref q_t_spare, .ref q_t_many, .ref q_t_px, .ref q_t_py, .ref q_t_pz, .ref q_t_strip, .ref q_t_kind, .ref q_t_byHand, .ref q_t_round, .ref q_t_lost, .ref q_t_shifts, .ref q_t_matrix, .ref q_t_right, .ref q_t_found, .ref q_t_high, .int t_highs, .ref q_t_near, .ref q_t_cells, .ref q_t_part, .ref q_t_before, .ref q_t_tape, .int t_taped, .int t_at, .int t_fault, .int t_steps, .ref q_t_what, .ref q_t_numbers])), (q_t_cells, .inl (cy 0, (256, .inl u))), (q_t_many, .inl (cy 0, (2, .inl t_many))), (q_t_px, .inl (cy 0, (200, .inl t_px))), (q_t_py, .inl (cy 0, (200, .inl t_py))), (q_t_pz, .inl (cy 0, (200, .inl t_pz))), (q_t_strip, .inl (cy 0, (200, .inl t_strip))), (q_t_shifts, .inl (cy 0, (8, .inl t_shifts))), (q_t_kind, .inl (cy 0, (200, .inl t_kind)))]) A) A) (([.ref q_t, .int a1, .int a2] : List Value)).toArray s 0 0 A) (F0 m 43 ls []) := by
              intro v5 n43
              induction n43 with
              | zero => intro v3 v6 H locs hP hD hS ls hl h; exact False.elim h
              | succ n43 ih43 =>
                intro v3 v6 H locs hP hD hS ls hl h
                have h : wp_X9_volume_b43_f (wp_X9_volume_b43 (wp_X9_volume_b158 (wp_X9_volume_b33 (wp_X9_volume_b164 Q) t_cells v2 n33)) t_cells v2 v5 n43) (wp_X9_volume_b158 (wp_X9_volume_b33 (wp_X9_volume_b164 Q) t_cells v2 n33)) t_cells v2 v5 v3 v6 := h
                unfold wp_X9_volume_b43_f at h
                refine lv_iload hx hb dX9_volume_43 (lv_at hl 4 rfl) ?_
                refine lv_bipush (v := (15 : Int32)) hx hb dX9_volume_45 (by decide) ?_
                refine lv_icmp_ge (tgt := 158) hx hb dX9_volume_47 (by decide) (fun c_ => ?_) (fun c_ => ?_)
                · have h := h.1 c_
                  exact j158 v3 v5 _ _ hP hD hS _ (lv_sub hl [0, 1, 2, 3] rfl) h
                · have h := h.2 c_
                  have j152 : ∀ (v3 : Int64) (v6 : Int32) (H : Heap) (locs : List Loc), va_P D vwCl [(q_t, .inr (9, [.ref q_t_lanes, .ref q_t_sizes, .ref q_t_items, .ref q_t_spare, .ref q_t_many, .ref q_t_px, .ref q_t_py, .ref q_t_pz, .ref q_t_strip, .ref q_t_kind, .ref q_t_byHand, .ref q_t_round, .ref q_t_lost, .ref q_t_shifts, .ref q_t_matrix, .ref q_t_right, .ref q_t_found, .ref q_t_high, .int t_highs, .ref q_t_near, .ref q_t_cells, .ref q_t_part, .ref q_t_before, .ref q_t_tape, .int t_taped, .int t_at, .int t_fault, .int t_steps, .ref q_t_what, .ref q_t_numbers])), (q_t_cells, .inl (cy 0, (256, .inl t_cells))), (q_t_many, .inl (cy 0, (2, .inl t_many))), (q_t_px, .inl (cy 0, (200, .inl t_px))), (q_t_py, .inl (cy 0, (200, .inl t_py))), (q_t_pz, .inl (cy 0, (200, .inl t_pz))), (q_t_strip, .inl (cy 0, (200, .inl t_strip))), (q_t_shifts, .inl (cy 0, (8, .inl t_shifts))), (q_t_kind, .inl (cy 0, (200, .inl t_kind)))] H → va_D A [(q_t, .inr (9, [.ref q_t_lanes, .ref q_t_sizes, .ref q_t_items, .ref q_t_spare, .ref q_t_many, .ref q_t_px, .ref q_t_py, .ref q_t_pz, .ref q_t_strip, .ref q_t_kind, .ref q_t_byHand, .ref q_t_round, .ref q_t_lost, .ref q_t_shifts, .ref q_t_matrix, .ref q_t_right, .ref q_t_found, .ref q_t_high, .int t_highs, .ref q_t_near, .ref q_t_cells, .ref q_t_part, .ref q_t_before, .ref q_t_tape, .int t_taped, .int t_at, .int t_fault, .int t_steps, .ref q_t_what, .ref q_t_numbers])), (q_t_cells, .inl (cy 0, (256, .inl t_cells))), (q_t_many, .inl (cy 0, (2, .inl t_many))), (q_t_px, .inl (cy 0, (200, .inl t_px))), (q_t_py, .inl (cy 0, (200, .inl t_py))), (q_t_pz, .inl (cy 0, (200, .inl t_pz))), (q_t_strip, .inl (cy 0, (200, .inl t_strip))), (q_t_shifts, .inl (cy 0, (8, .inl t_shifts))), (q_t_kind, .inl (cy 0, (200, .inl t_kind)))] → va_S A s.heap H locs → ∀ (ls : Array Slot), lv_has ls 9 [(0, .ref q_t), (2, .int v2), (3, .long v3), (5, .int v5), (6, .int v6)] → wp_X9_volume_b152 (wp_X9_volume_b43 (wp_X9_volume_b158 (wp_X9_volume_b33 (wp_X9_volume_b164 Q) t_cells v2 n33)) t_cells v2 v5 n43) v3 v6 → W p l e (headSpec wsX9_volume ({ frames := 2, cells := 0, slots := 0, locals := 47 } : Room)).room s m (([.ref q_t, .int a1, .int a2] : List Value)).toArray below meth c H locs 0 0 (MQ below (va_Ql (fun (r : Int64) (u : (Nat → Int32)) => Q r u) (py_B D (fun (u : (Nat → Int32)) => [(q_t, .inr (9, [.ref q_t_lanes, .ref q_t_sizes, .ref q_t_items, .ref q_t_spare, .ref q_t_many, .ref q_t_px, .ref q_t_py, .ref q_t_pz, .ref q_t_strip, .ref q_t_kind, .ref q_t_byHand, .ref q_t_round, .ref q_t_lost, .ref q_t_shifts, .ref q_t_matrix, .ref q_t_right, .ref q_t_found, .ref q_t_high, .int t_highs, .ref q_t_near, .ref q_t_cells, .ref q_t_part, .ref q_t_before, .ref q_t_tape, .int t_taped, .int t_at, .int t_fault, .int t_steps, .ref q_t_what, .ref q_t_numbers])), (q_t_cells, .inl (cy 0, (256, .inl u))), (q_t_many, .inl (cy 0, (2, .inl t_many))), (q_t_px, .inl (cy 0, (200, .inl t_px))), (q_t_py, .inl (cy 0, (200, .inl t_py))), (q_t_pz, .inl (cy 0, (200, .inl t_pz))), (q_t_strip, .inl (cy 0, (200, .inl t_strip))), (q_t_shifts, .inl (cy 0, (8, .inl t_shifts))), (q_t_kind, .inl (cy 0, (200, .inl t_kind)))]) A) A) (([.ref q_t, .int a1, .int a2] : List Value)).toArray s 0 0 A) (F0 m 152 ls []) := by
                    intro v3 v6 H locs hP hD hS ls hl h
                    unfold wp_X9_volume_b152 at h
                    obtain ⟨v6_4, ev6_4⟩ : ∃ y : Int32, y = v6 + (1 : Int32) := ⟨_, rfl⟩
                    have h := h v6_4 ev6_4
                    refine lv_iinc (v := v6_4) (lv' := [(6, .int v6_4), (0, .ref q_t), (2, .int v2), (3, .long v3), (5, .int v5)]) hx hb dX9_volume_152 hl (k := 4) rfl (by rw [ev6_4]; rfl) (by decide) rfl (fun ls hl => ?_)
                    refine lv_goto (tgt := 43) hx hb dX9_volume_155 (by decide) ?_
                    exact ih43 v3 v6_4 _ _ hP hD hS _ (lv_sub hl [1, 2, 3, 4, 0] rfl) h
                  refine lv_aload_n hx hb dX9_volume_50 rfl (lv_at hl 0 rfl) ?_
                  refine lv_iload hx hb dX9_volume_51 (lv_at hl 4 rfl) ?_
                  refine lv_iload hx hb dX9_volume_53 (lv_at hl 3 rfl) ?_
                  refine py_ci (py_rVp (As := [.int v6, .int v5]) ⟨hx, hb, hml, hown, hts⟩ hKK hP [0, 1] rfl 0 9 rfl rfl (c_X9_isFour l D cy q_t_lanes q_t_sizes q_t_items q_t_spare q_t_many q_t_px q_t_py q_t_pz q_t_strip q_t_kind q_t_byHand q_t_round q_t_lost q_t_shifts q_t_matrix q_t_right q_t_found q_t_high q_t_near q_t_cells q_t_part q_t_before q_t_tape q_t_what q_t_numbers q_t t_highs t_taped t_at t_fault t_steps t_cells v6 v5 _ h) (cwV 2 hts gX9_volume_X9_isFour rfl rfl rfl cdv_X9_isFour ⟨Nat.le_of_ble_eq_true rfl, Nat.le_of_ble_eq_true rfl⟩) rfl hl.1 rfl (Nat.le_of_ble_eq_true rfl) ⟨Nat.zero_le _, Nat.zero_le _⟩ dX9_volume_55) (fun r_5 h => ?_)
                  refine lv_if_eq (tgt := 152) hx hb dX9_volume_58 (by decide) (fun c_ => ?_) (fun c_ => ?_)
                  · have h := h.1 c_
                    exact j152 v3 v6 _ _ hP hD hS _ hl h
                  · have h := h.2 c_
                    refine lv_aload_n hx hb dX9_volume_61 rfl (lv_at hl 0 rfl) ?_
                    refine va_get (D := D) (ci := 9) (C := RX9) (T := TX9) (N := 30) hx hb hts hi_X9 hown hK hP 0 rfl rfl 20 (by decide) (hts (.fieldLink RX9 69 "RayGroundModel" "cells" "[I") (List.mem_of_getElem? (i := 3) rfl)) (fun _ h9 => h9) rfl dX9_volume_62 ?_
                    refine lv_iload hx hb dX9_volume_65 (lv_at hl 4 rfl) ?_
                    refine lv_bipush (v := (16 : Int32)) hx hb dX9_volume_67 (by decide) ?_
                    refine lv_iload hx hb dX9_volume_69 (lv_at hl 3 rfl) ?_
                    refine lv_imul hx hb dX9_volume_71 ?_
                    refine lv_iadd hx hb dX9_volume_72 ?_
                    refine py_iald hx hb hK hP 1 0 rfl rfl (k := (v6 + ((16 : Int32) * v5)).toNatClampNeg) rfl h.1 dX9_volume_73 ?_
                    have h := h.2
                    refine lv_aload_n hx hb dX9_volume_74 rfl (lv_at hl 0 rfl) ?_
                    refine va_get (D := D) (ci := 9) (C := RX9) (T := TX9) (N := 30) hx hb hts hi_X9 hown hK hP 0 rfl rfl 20 (by decide) (hts (.fieldLink RX9 69 "RayGroundModel" "cells" "[I") (List.mem_of_getElem? (i := 3) rfl)) (fun _ h9 => h9) rfl dX9_volume_75 ?_
                    refine lv_iload hx hb dX9_volume_78 (lv_at hl 4 rfl) ?_
                    refine lv_bipush (v := (17 : Int32)) hx hb dX9_volume_80 (by decide) ?_
                    refine lv_iadd hx hb dX9_volume_82 ?_
                    refine lv_bipush (v := (16 : Int32)) hx hb dX9_volume_83 (by decide) ?_
                    refine lv_iload hx hb dX9_volume_85 (lv_at hl 3 rfl) ?_
                    refine lv_imul hx hb dX9_volume_87 ?_
                    refine lv_iadd hx hb dX9_volume_88 ?_
                    refine py_iald hx hb hK hP 1 0 rfl rfl (k := ((v6 + (17 : Int32)) + ((16 : Int32) * v5)).toNatClampNeg) rfl h.1 dX9_volume_89 ?_
                    have h := h.2
                    refine lv_iadd hx hb dX9_volume_90 ?_
                    refine lv_i2l (v := (((t_cells ((v6 + ((16 : Int32) * v5)).toNatClampNeg)) + (t_cells (((v6 + (17 : Int32)) + ((16 : Int32) * v5)).toNatClampNeg))).toInt64)) hx hb dX9_volume_91 rfl ?_
                    refine lv_ldc2 (v := (2 : Int64)) hx hb hown (hts (.constantLong RX9 93 (2)) (List.mem_of_getElem? (i := 4) rfl)) dX9_volume_92 ?_
                    refine lv_iload_n hx hb dX9_volume_95 rfl (lv_at hl 1 rfl) ?_
                    refine lv_i2l (v := (v2.toInt64)) hx hb dX9_volume_96 rfl ?_
                    refine lv_lmul hx hb dX9_volume_97 ?_
                    refine lv_lsub hx hb dX9_volume_98 ?_
                    refine lv_topl (fun v7_6 ev7_6 => ?_)
                    have h := h v7_6 ev7_6
                    refine lv_lstore (lv' := [(7, .long v7_6), (0, .ref q_t), (2, .int v2), (3, .long v3), (5, .int v5), (6, .int v6)]) hx hb dX9_volume_99 hl (by decide) rfl (fun ls hl => ?_)
                    refine lv_lload_n hx hb dX9_volume_101 rfl (lv_at hl 3 rfl) ?_
                    refine lv_ldc2 (v := (2 : Int64)) hx hb hown (hts (.constantLong RX9 93 (2)) (List.mem_of_getElem? (i := 4) rfl)) dX9_volume_102 ?_
                    refine lv_lload hx hb dX9_volume_105 (lv_at hl 0 rfl) ?_
                    refine lv_lmul hx hb dX9_volume_107 ?_
                    refine lv_aload_n hx hb dX9_volume_108 rfl (lv_at hl 1 rfl) ?_
                    refine va_get (D := D) (ci := 9) (C := RX9) (T := TX9) (N := 30) hx hb hts hi_X9 hown hK hP 0 rfl rfl 20 (by decide) (hts (.fieldLink RX9 69 "RayGroundModel" "cells" "[I") (List.mem_of_getElem? (i := 3) rfl)) (fun _ h9 => h9) rfl dX9_volume_109 ?_
                    refine lv_iload hx hb dX9_volume_112 (lv_at hl 5 rfl) ?_
                    refine lv_iconst (v := (1 : Int32)) hx hb dX9_volume_114 (by decide) ?_
                    refine lv_iadd hx hb dX9_volume_115 ?_
                    refine lv_bipush (v := (16 : Int32)) hx hb dX9_volume_116 (by decide) ?_
                    refine lv_iload hx hb dX9_volume_118 (lv_at hl 4 rfl) ?_
                    refine lv_imul hx hb dX9_volume_120 ?_
                    refine lv_iadd hx hb dX9_volume_121 ?_
                    refine py_iald hx hb hK hP 1 0 rfl rfl (k := ((v6 + (1 : Int32)) + ((16 : Int32) * v5)).toNatClampNeg) rfl h.1 dX9_volume_122 ?_
                    have h := h.2
                    refine lv_i2l (v := ((t_cells (((v6 + (1 : Int32)) + ((16 : Int32) * v5)).toNatClampNeg)).toInt64)) hx hb dX9_volume_123 rfl ?_
                    refine lv_ladd hx hb dX9_volume_124 ?_
                    refine lv_aload_n hx hb dX9_volume_125 rfl (lv_at hl 1 rfl) ?_
                    refine va_get (D := D) (ci := 9) (C := RX9) (T := TX9) (N := 30) hx hb hts hi_X9 hown hK hP 0 rfl rfl 20 (by decide) (hts (.fieldLink RX9 69 "RayGroundModel" "cells" "[I") (List.mem_of_getElem? (i := 3) rfl)) (fun _ h9 => h9) rfl dX9_volume_126 ?_
                    refine lv_iload hx hb dX9_volume_129 (lv_at hl 5 rfl) ?_
                    refine lv_bipush (v := (16 : Int32)) hx hb dX9_volume_131 (by decide) ?_
                    refine lv_iload hx hb dX9_volume_133 (lv_at hl 4 rfl) ?_
                    refine lv_imul hx hb dX9_volume_135 ?_
                    refine lv_iadd hx hb dX9_volume_136 ?_
                    refine lv_bipush (v := (16 : Int32)) hx hb dX9_volume_137 (by decide) ?_
                    refine lv_iadd hx hb dX9_volume_139 ?_
                    refine py_iald hx hb hK hP 1 0 rfl rfl (k := ((v6 + ((16 : Int32) * v5)) + (16 : Int32)).toNatClampNeg) rfl h.1 dX9_volume_140 ?_
                    have h := h.2
                    refine lv_i2l (v := ((t_cells (((v6 + ((16 : Int32) * v5)) + (16 : Int32)).toNatClampNeg)).toInt64)) hx hb dX9_volume_141 rfl ?_
                    refine lv_ladd hx hb dX9_volume_142 ?_
                    refine lv_ldc2 (v := (2 : Int64)) hx hb hown (hts (.constantLong RX9 93 (2)) (List.mem_of_getElem? (i := 4) rfl)) dX9_volume_143 ?_
                    refine lv_iload_n hx hb dX9_volume_146 rfl (lv_at hl 2 rfl) ?_
                    refine lv_i2l (v := (v2.toInt64)) hx hb dX9_volume_147 rfl ?_
                    refine lv_lmul hx hb dX9_volume_148 ?_
                    refine lv_lsub hx hb dX9_volume_149 ?_
                    refine lv_ladd hx hb dX9_volume_150 ?_
                    refine lv_topl (fun v3_7 ev3_7 => ?_)
                    have h := h v3_7 ev3_7
                    refine lv_lstore_n (lv' := [(3, .long v3_7), (7, .long v7_6), (0, .ref q_t), (2, .int v2), (5, .int v5), (6, .int v6)]) hx hb dX9_volume_151 rfl hl (by decide) rfl (fun ls hl => ?_)
                    exact j152 v3_7 v6 _ _ hP hD hS _ (lv_sub hl [2, 3, 0, 4, 5] rfl) h
            refine lv_iconst (v := (0 : Int32)) hx hb dX9_volume_40 (by decide) ?_
            refine lv_istore (lv' := [(6, .int (0 : Int32)), (0, .ref q_t), (2, .int v2), (3, .long v3), (5, .int v5)]) hx hb dX9_volume_41 hl (by decide) rfl (fun ls hl => ?_)
            obtain ⟨n, h⟩ := h
            exact lp43 v5 n v3 (0 : Int32) _ _ hP hD hS _ (lv_sub hl [1, 2, 3, 4, 0] rfl) h
      refine lv_aload_n hx hb dX9_volume_23 rfl (lv_at hl 0 rfl) ?_
      refine lv_iload_n hx hb dX9_volume_24 rfl (lv_at hl 1 rfl) ?_
      refine py_wv (wr := []) (py_rVw (As := [.int a1]) ⟨hx, hb, hml, hown, hts⟩ hKK hP hD [0, 1, 2, 3, 4, 5, 6, 7, 8] rfl rfl rfl 0 9 rfl rfl (c_X9_findGrid l D cy q_t_lanes q_t_sizes q_t_items q_t_spare q_t_many q_t_px q_t_py q_t_pz q_t_strip q_t_kind q_t_byHand q_t_round q_t_lost q_t_shifts q_t_matrix q_t_right q_t_found q_t_high q_t_near q_t_cells q_t_part q_t_before q_t_tape q_t_what q_t_numbers q_t t_highs t_taped t_at t_fault t_steps t_cells t_many t_px t_py t_pz t_strip t_shifts t_kind a1 s.heap.size _ h) (cwV 1 hts gX9_volume_X9_findGrid rfl rfl rfl cdv_X9_findGrid ⟨Nat.le_of_ble_eq_true rfl, Nat.le_of_ble_eq_true rfl⟩) rfl hl.1 rfl (Nat.le_of_ble_eq_true rfl) ⟨Nat.zero_le _, Nat.zero_le _⟩ dX9_volume_25) hP hD hS hA [0, 1, 2, 3, 4, 5, 6, 7, 8] [] rfl rfl rfl (by decide) (fun u H locs h hP hD hS => ?_)
      obtain ⟨c_cells_9, rfl⟩ : ∃ z, z = u := ⟨_, rfl⟩
      have hP := hP.sub (ws' := [(q_t, .inr (9, [.ref q_t_lanes, .ref q_t_sizes, .ref q_t_items, .ref q_t_spare, .ref q_t_many, .ref q_t_px, .ref q_t_py, .ref q_t_pz, .ref q_t_strip, .ref q_t_kind, .ref q_t_byHand, .ref q_t_round, .ref q_t_lost, .ref q_t_shifts, .ref q_t_matrix, .ref q_t_right, .ref q_t_found, .ref q_t_high, .int t_highs, .ref q_t_near, .ref q_t_cells, .ref q_t_part, .ref q_t_before, .ref q_t_tape, .int t_taped, .int t_at, .int t_fault, .int t_steps, .ref q_t_what, .ref q_t_numbers])), (q_t_cells, .inl (cy 0, (256, .inl c_cells_9))), (q_t_many, .inl (cy 0, (2, .inl t_many))), (q_t_px, .inl (cy 0, (200, .inl t_px))), (q_t_py, .inl (cy 0, (200, .inl t_py))), (q_t_pz, .inl (cy 0, (200, .inl t_pz))), (q_t_strip, .inl (cy 0, (200, .inl t_strip))), (q_t_shifts, .inl (cy 0, (8, .inl t_shifts))), (q_t_kind, .inl (cy 0, (200, .inl t_kind)))]) [0, 1, 2, 3, 4, 5, 6, 7, 8] rfl
      have hD := hD.sub (ws' := [(q_t, .inr (9, [.ref q_t_lanes, .ref q_t_sizes, .ref q_t_items, .ref q_t_spare, .ref q_t_many, .ref q_t_px, .ref q_t_py, .ref q_t_pz, .ref q_t_strip, .ref q_t_kind, .ref q_t_byHand, .ref q_t_round, .ref q_t_lost, .ref q_t_shifts, .ref q_t_matrix, .ref q_t_right, .ref q_t_found, .ref q_t_high, .int t_highs, .ref q_t_near, .ref q_t_cells, .ref q_t_part, .ref q_t_before, .ref q_t_tape, .int t_taped, .int t_at, .int t_fault, .int t_steps, .ref q_t_what, .ref q_t_numbers])), (q_t_cells, .inl (cy 0, (256, .inl c_cells_9))), (q_t_many, .inl (cy 0, (2, .inl t_many))), (q_t_px, .inl (cy 0, (200, .inl t_px))), (q_t_py, .inl (cy 0, (200, .inl t_py))), (q_t_pz, .inl (cy 0, (200, .inl t_pz))), (q_t_strip, .inl (cy 0, (200, .inl t_strip))), (q_t_shifts, .inl (cy 0, (8, .inl t_shifts))), (q_t_kind, .inl (cy 0, (200, .inl t_kind)))]) [0, 1, 2, 3, 4, 5, 6, 7, 8] rfl rfl
      refine lv_lconst (v := (0 : Int64)) hx hb dX9_volume_28 (by decide) ?_
      refine lv_lstore_n (lv' := [(3, .long (0 : Int64)), (0, .ref q_t), (1, .int a1), (2, .int a2)]) hx hb dX9_volume_29 rfl hl (by decide) rfl (fun ls hl => ?_)
      refine lv_iconst (v := (0 : Int32)) hx hb dX9_volume_30 (by decide) ?_
      refine lv_istore (lv' := [(5, .int (0 : Int32)), (3, .long (0 : Int64)), (0, .ref q_t), (1, .int a1), (2, .int a2)]) hx hb dX9_volume_31 hl (by decide) rfl (fun ls hl => ?_)
      obtain ⟨n, h⟩ := h
      exact lp33 c_cells_9 a2 n (0 : Int64) (0 : Int32) _ _ hP hD hS _ (lv_sub hl [2, 4, 1, 0] rfl) h
    · have h := h.1 c_
      refine lv_lconst (v := (0 : Int64)) hx hb dX9_volume_21 (by decide) ?_
      exact W.lret (v := (0 : Int64)) hx hb hr (fun t ht hW => ⟨⟨(0 : Int64), t_cells, rfl, h, by rw [ht]; exact hP, hD⟩, hS.F ht⟩) hS.2.2 dX9_volume_22
set_option maxHeartbeats 4000000 in
set_option maxRecDepth 100000 in
theorem c_X9_thirds (l : Launch) (D : va_G) (cy : Nat → ClassId) (q_t_lanes q_t_sizes q_t_items q_t_spare q_t_many q_t_px q_t_py q_t_pz q_t_strip q_t_kind q_t_byHand q_t_round q_t_lost q_t_shifts q_t_matrix q_t_right q_t_found q_t_high q_t_near q_t_cells q_t_part q_t_before q_t_tape q_t_what q_t_numbers q_t : Nat) (t_highs : Int32) (t_taped : Int32) (t_at : Int32) (t_fault : Int32) (t_steps : Int32) (t_cells : Nat → Int32) (t_many : Nat → Int32) (t_px : Nat → Int32) (t_py : Nat → Int32) (t_pz : Nat → Int32) (t_strip : Nat → Int32) (t_shifts : Nat → Int32) (t_kind : Nat → Int32) (a1 : Int32) (sz : Nat) (Q : Int32 → (Nat → Int32) → Prop) (h : wp_X9_thirds t_cells t_many t_px t_py t_pz t_strip t_shifts t_kind a1 Q) : Met l yX9_thirds wsX9_thirds ({ frames := 2, cells := 0, slots := 0, locals := 47 } : Room) (py_Pw ([.ref q_t, .int a1] : List Value) D cy [(q_t, .inr (9, [.ref q_t_lanes, .ref q_t_sizes, .ref q_t_items, .ref q_t_spare, .ref q_t_many, .ref q_t_px, .ref q_t_py, .ref q_t_pz, .ref q_t_strip, .ref q_t_kind, .ref q_t_byHand, .ref q_t_round, .ref q_t_lost, .ref q_t_shifts, .ref q_t_matrix, .ref q_t_right, .ref q_t_found, .ref q_t_high, .int t_highs, .ref q_t_near, .ref q_t_cells, .ref q_t_part, .ref q_t_before, .ref q_t_tape, .int t_taped, .int t_at, .int t_fault, .int t_steps, .ref q_t_what, .ref q_t_numbers])), (q_t_cells, .inl (cy 0, (256, .inl t_cells))), (q_t_many, .inl (cy 0, (2, .inl t_many))), (q_t_px, .inl (cy 0, (200, .inl t_px))), (q_t_py, .inl (cy 0, (200, .inl t_py))), (q_t_pz, .inl (cy 0, (200, .inl t_pz))), (q_t_strip, .inl (cy 0, (200, .inl t_strip))), (q_t_shifts, .inl (cy 0, (8, .inl t_shifts))), (q_t_kind, .inl (cy 0, (200, .inl t_kind)))] sz) (va_Qi (fun (r : Int32) (u : (Nat → Int32)) => Q r u) (py_B D (fun (u : (Nat → Int32)) => [(q_t, .inr (9, [.ref q_t_lanes, .ref q_t_sizes, .ref q_t_items, .ref q_t_spare, .ref q_t_many, .ref q_t_px, .ref q_t_py, .ref q_t_pz, .ref q_t_strip, .ref q_t_kind, .ref q_t_byHand, .ref q_t_round, .ref q_t_lost, .ref q_t_shifts, .ref q_t_matrix, .ref q_t_right, .ref q_t_found, .ref q_t_high, .int t_highs, .ref q_t_near, .ref q_t_cells, .ref q_t_part, .ref q_t_before, .ref q_t_tape, .int t_taped, .int t_at, .int t_fault, .int t_steps, .ref q_t_what, .ref q_t_numbers])), (q_t_cells, .inl (cy 0, (256, .inl u))), (q_t_many, .inl (cy 0, (2, .inl t_many))), (q_t_px, .inl (cy 0, (200, .inl t_px))), (q_t_py, .inl (cy 0, (200, .inl t_py))), (q_t_pz, .inl (cy 0, (200, .inl t_pz))), (q_t_strip, .inl (cy 0, (200, .inl t_strip))), (q_t_shifts, .inl (cy 0, (8, .inl t_shifts))), (q_t_kind, .inl (cy 0, (200, .inl t_kind)))]) (va_A [(q_t, .inr (9, [.ref q_t_lanes, .ref q_t_sizes, .ref q_t_items, .ref q_t_spare, .ref q_t_many, .ref q_t_px, .ref q_t_py, .ref q_t_pz, .ref q_t_strip, .ref q_t_kind, .ref q_t_byHand, .ref q_t_round, .ref q_t_lost, .ref q_t_shifts, .ref q_t_matrix, .ref q_t_right, .ref q_t_found, .ref q_t_high, .int t_highs, .ref q_t_near, .ref q_t_cells, .ref q_t_part, .ref q_t_before, .ref q_t_tape, .int t_taped, .int t_at, .int t_fault, .int t_steps, .ref q_t_what, .ref q_t_numbers])), (q_t_cells, .inl (cy 0, (256, .inl t_cells))), (q_t_many, .inl (cy 0, (2, .inl t_many))), (q_t_px, .inl (cy 0, (200, .inl t_px))), (q_t_py, .inl (cy 0, (200, .inl t_py))), (q_t_pz, .inl (cy 0, (200, .inl t_pz))), (q_t_strip, .inl (cy 0, (200, .inl t_strip))), (q_t_shifts, .inl (cy 0, (8, .inl t_shifts))), (q_t_kind, .inl (cy 0, (200, .inl t_kind)))] sz)) (va_A [(q_t, .inr (9, [.ref q_t_lanes, .ref q_t_sizes, .ref q_t_items, .ref q_t_spare, .ref q_t_many, .ref q_t_px, .ref q_t_py, .ref q_t_pz, .ref q_t_strip, .ref q_t_kind, .ref q_t_byHand, .ref q_t_round, .ref q_t_lost, .ref q_t_shifts, .ref q_t_matrix, .ref q_t_right, .ref q_t_found, .ref q_t_high, .int t_highs, .ref q_t_near, .ref q_t_cells, .ref q_t_part, .ref q_t_before, .ref q_t_tape, .int t_taped, .int t_at, .int t_fault, .int t_steps, .ref q_t_what, .ref q_t_numbers])), (q_t_cells, .inl (cy 0, (256, .inl t_cells))), (q_t_many, .inl (cy 0, (2, .inl t_many))), (q_t_px, .inl (cy 0, (200, .inl t_px))), (q_t_py, .inl (cy 0, (200, .inl t_py))), (q_t_pz, .inl (cy 0, (200, .inl t_pz))), (q_t_strip, .inl (cy 0, (200, .inl t_strip))), (q_t_shifts, .inl (cy 0, (8, .inl t_shifts))), (q_t_kind, .inl (cy 0, (200, .inl t_kind)))] sz)) 0 0 (va_A [(q_t, .inr (9, [.ref q_t_lanes, .ref q_t_sizes, .ref q_t_items, .ref q_t_spare, .ref q_t_many, .ref q_t_px, .ref q_t_py, .ref q_t_pz, .ref q_t_strip, .ref q_t_kind, .ref q_t_byHand, .ref q_t_round, .ref q_t_lost, .ref q_t_shifts, .ref q_t_matrix, .ref q_t_right, .ref q_t_found, .ref q_t_high, .int t_highs, .ref q_t_near, .ref q_t_cells, .ref q_t_part, .ref q_t_before, .ref q_t_tape, .int t_taped, .int t_at, .int t_fault, .int t_steps, .ref q_t_what, .ref q_t_numbers])), (q_t_cells, .inl (cy 0, (256, .inl t_cells))), (q_t_many, .inl (cy 0, (2, .inl t_many))), (q_t_px, .inl (cy 0, (200, .inl t_px))), (q_t_py, .inl (cy 0, (200, .inl t_py))), (q_t_pz, .inl (cy 0, (200, .inl t_pz))), (q_t_strip, .inl (cy 0, (200, .inl t_strip))), (q_t_shifts, .inl (cy 0, (8, .inl t_shifts))), (q_t_kind, .inl (cy 0, (200, .inl t_kind)))] sz) := by
  refine Met.ofW (cc := cX9_thirds) (maxL := 4) (ret := (some .int)) (by decide) rfl ?_
  intro p e s m args below meth c s₁ B hml hv
  obtain ⟨rfl, hsz, hP, hKK, hD0⟩ := hv
  have hK := hKK.1
  have hN := hKK.2
  have hx := B.exec
  have hb := B.bytes
  have hr := B.returns
  have hts := atoms_spec (ws := wsX9_thirds) B.pre
  have hown : s.vm.findClass RX9 = some m.cls := findClass_of_methodNamed B.named
  have hlocks := B.notSynchronized
  subst hsz
  have hD := hD0.self (sz := s.heap.size)
  generalize hAe : va_A [(q_t, .inr (9, [.ref q_t_lanes, .ref q_t_sizes, .ref q_t_items, .ref q_t_spare, .ref q_t_many, .ref q_t_px, .ref q_t_py, .ref q_t_pz, .ref q_t_strip, .ref q_t_kind, .ref q_t_byHand, .ref q_t_round, .ref q_t_lost, .ref q_t_shifts, .ref q_t_matrix, .ref q_t_right, .ref q_t_found, .ref q_t_high, .int t_highs, .ref q_t_near, .ref q_t_cells, .ref q_t_part, .ref q_t_before, .ref q_t_tape, .int t_taped, .int t_at, .int t_fault, .int t_steps, .ref q_t_what, .ref q_t_numbers])), (q_t_cells, .inl (cy 0, (256, .inl t_cells))), (q_t_many, .inl (cy 0, (2, .inl t_many))), (q_t_px, .inl (cy 0, (200, .inl t_px))), (q_t_py, .inl (cy 0, (200, .inl t_py))), (q_t_pz, .inl (cy 0, (200, .inl t_pz))), (q_t_strip, .inl (cy 0, (200, .inl t_strip))), (q_t_shifts, .inl (cy 0, (8, .inl t_shifts))), (q_t_kind, .inl (cy 0, (200, .inl t_kind)))] s.heap.size = A at hD ⊢
  have hA : ∀ q : Nat, s.heap.size ≤ q → A q := fun q h => by rw [← hAe]; exact Or.inr h
  have hS : va_S A s.heap s.heap [] := va_S.rf
  have hl := lv_entry ([.ref q_t, .int a1] : List Value) (n := 4) (Nat.le_of_ble_eq_true rfl)
  rw [lg_entry_eq]
  generalize (lg_sl ([.ref q_t, .int a1] : List Value) ++ List.replicate (4 - (lg_sl ([.ref q_t, .int a1] : List Value)).length) Slot.unset).toArray = ls at hl ⊢
  have hl : lv_has ls 4 [(0, .ref q_t), (1, .int a1)] := hl
  unfold wp_X9_thirds at h
  refine lv_iload_n hx hb dX9_thirds_0 rfl (lv_at hl 1 rfl) ?_
  refine py_ci (py_rSp (As := [.int a1]) ⟨hx, hb, hml, hown, hts⟩ hKK hP [] rfl (c_X9_isYear l D cy a1 _ h) (va_cwS 1 hts gX9_thirds_X9_isYear rfl rfl rfl cd_X9_isYear ⟨Nat.le_of_ble_eq_true rfl, Nat.le_of_ble_eq_true rfl⟩) rfl hl.1 rfl (Nat.le_of_ble_eq_true rfl) ⟨Nat.zero_le _, Nat.zero_le _⟩ dX9_thirds_1) (fun r_1 h => ?_)
  refine lv_if_ne (tgt := 9) hx hb dX9_thirds_4 (by decide) (fun c_ => ?_) (fun c_ => ?_)
  · have h := h.2 c_
    have lp18 : ∀ (t_cells : Nat → Int32) (n18 : Nat) (v2 : Int32) (v3 : Int32) (H : Heap) (locs : List Loc), va_P D vwCl [(q_t, .inr (9, [.ref q_t_lanes, .ref q_t_sizes, .ref q_t_items, .ref q_t_spare, .ref q_t_many, .ref q_t_px, .ref q_t_py, .ref q_t_pz, .ref q_t_strip, .ref q_t_kind, .ref q_t_byHand, .ref q_t_round, .ref q_t_lost, .ref q_t_shifts, .ref q_t_matrix, .ref q_t_right, .ref q_t_found, .ref q_t_high, .int t_highs, .ref q_t_near, .ref q_t_cells, .ref q_t_part, .ref q_t_before, .ref q_t_tape, .int t_taped, .int t_at, .int t_fault, .int t_steps, .ref q_t_what, .ref q_t_numbers])), (q_t_cells, .inl (cy 0, (256, .inl t_cells))), (q_t_many, .inl (cy 0, (2, .inl t_many))), (q_t_px, .inl (cy 0, (200, .inl t_px))), (q_t_py, .inl (cy 0, (200, .inl t_py))), (q_t_pz, .inl (cy 0, (200, .inl t_pz))), (q_t_strip, .inl (cy 0, (200, .inl t_strip))), (q_t_shifts, .inl (cy 0, (8, .inl t_shifts))), (q_t_kind, .inl (cy 0, (200, .inl t_kind)))] H → va_D A [(q_t, .inr (9, [.ref q_t_lanes, .ref q_t_sizes, .ref q_t_items, .ref q_t_spare, .ref q_t_many, .ref q_t_px, .ref q_t_py, .ref q_t_pz, .ref q_t_strip, .ref q_t_kind, .ref q_t_byHand, .ref q_t_round, .ref q_t_lost, .ref q_t_shifts, .ref q_t_matrix, .ref q_t_right, .ref q_t_found, .ref q_t_high, .int t_highs, .ref q_t_near, .ref q_t_cells, .ref q_t_part, .ref q_t_before, .ref q_t_tape, .int t_taped, .int t_at, .int t_fault, .int t_steps, .ref q_t_what, .ref q_t_numbers])), (q_t_cells, .inl (cy 0, (256, .inl t_cells))), (q_t_many, .inl (cy 0, (2, .inl t_many))), (q_t_px, .inl (cy 0, (200, .inl t_px))), (q_t_py, .inl (cy 0, (200, .inl t_py))), (q_t_pz, .inl (cy 0, (200, .inl t_pz))), (q_t_strip, .inl (cy 0, (200, .inl t_strip))), (q_t_shifts, .inl (cy 0, (8, .inl t_shifts))), (q_t_kind, .inl (cy 0, (200, .inl t_kind)))] → va_S A s.heap H locs → ∀ (ls : Array Slot), lv_has ls 4 [(0, .ref q_t), (2, .int v2), (3, .int v3)] → wp_X9_thirds_b18 Q t_cells n18 v2 v3 → W p l e (headSpec wsX9_thirds ({ frames := 2, cells := 0, slots := 0, locals := 47 } : Room)).room s m (([.ref q_t, .int a1] : List Value)).toArray below meth c H locs 0 0 (MQ below (va_Qi (fun (r : Int32) (u : (Nat → Int32)) => Q r u) (py_B D (fun (u : (Nat → Int32)) => [(q_t, .inr (9, [.ref q_t_lanes, .ref q_t_sizes, .ref q_t_items, .ref q_t_spare, .ref q_t_many, .ref q_t_px, .ref q_t_py, .ref q_t_pz, .ref q_t_strip, .ref q_t_kind, .ref q_t_byHand, .ref q_t_round, .ref q_t_lost, .ref q_t_shifts, .ref q_t_matrix, .ref q_t_right, .ref q_t_found, .ref q_t_high, .int t_highs, .ref q_t_near, .ref q_t_cells, .ref q_t_part, .ref q_t_before, .ref q_t_tape, .int t_taped, .int t_at, .int t_fault, .int t_steps, .ref q_t_what, .ref q_t_numbers])), (q_t_cells, .inl (cy 0, (256, .inl u))), (q_t_many, .inl (cy 0, (2, .inl t_many))), (q_t_px, .inl (cy 0, (200, .inl t_px))), (q_t_py, .inl (cy 0, (200, .inl t_py))), (q_t_pz, .inl (cy 0, (200, .inl t_pz))), (q_t_strip, .inl (cy 0, (200, .inl t_strip))), (q_t_shifts, .inl (cy 0, (8, .inl t_shifts))), (q_t_kind, .inl (cy 0, (200, .inl t_kind)))]) A) A) (([.ref q_t, .int a1] : List Value)).toArray s 0 0 A) (F0 m 18 ls []) := by
      intro t_cells n18
      induction n18 with
      | zero => intro v2 v3 H locs hP hD hS ls hl h; exact False.elim h
      | succ n18 ih18 =>
        intro v2 v3 H locs hP hD hS ls hl h
        have h : wp_X9_thirds_b18_f (wp_X9_thirds_b18 Q t_cells n18) Q t_cells v2 v3 := h
        unfold wp_X9_thirds_b18_f at h
        refine lv_iload_n hx hb dX9_thirds_18 rfl (lv_at hl 2 rfl) ?_
        refine lv_sipush (v := (225 : Int32)) hx hb dX9_thirds_19 (by decide) ?_
        refine lv_icmp_ge (tgt := 54) hx hb dX9_thirds_22 (by decide) (fun c_ => ?_) (fun c_ => ?_)
        · have h := h.1 c_
          refine lv_iload_n hx hb dX9_thirds_54 rfl (lv_at hl 1 rfl) ?_
          exact W.iret (v := v2) hx hb hr (fun t ht hW => ⟨⟨v2, t_cells, rfl, h, by rw [ht]; exact hP, hD⟩, hS.F ht⟩) hS.2.2 dX9_thirds_55
        · have h := h.2 c_
          have j46 : ∀ (v3 : Int32) (s0 : Int32) (s1 : Int32) (H : Heap) (locs : List Loc), va_P D vwCl [(q_t, .inr (9, [.ref q_t_lanes, .ref q_t_sizes, .ref q_t_items, .ref q_t_spare, .ref q_t_many, .ref q_t_px, .ref q_t_py, .ref q_t_pz, .ref q_t_strip, .ref q_t_kind, .ref q_t_byHand, .ref q_t_round, .ref q_t_lost, .ref q_t_shifts, .ref q_t_matrix, .ref q_t_right, .ref q_t_found, .ref q_t_high, .int t_highs, .ref q_t_near, .ref q_t_cells, .ref q_t_part, .ref q_t_before, .ref q_t_tape, .int t_taped, .int t_at, .int t_fault, .int t_steps, .ref q_t_what, .ref q_t_numbers])), (q_t_cells, .inl (cy 0, (256, .inl t_cells))), (q_t_many, .inl (cy 0, (2, .inl t_many))), (q_t_px, .inl (cy 0, (200, .inl t_px))), (q_t_py, .inl (cy 0, (200, .inl t_py))), (q_t_pz, .inl (cy 0, (200, .inl t_pz))), (q_t_strip, .inl (cy 0, (200, .inl t_strip))), (q_t_shifts, .inl (cy 0, (8, .inl t_shifts))), (q_t_kind, .inl (cy 0, (200, .inl t_kind)))] H → va_D A [(q_t, .inr (9, [.ref q_t_lanes, .ref q_t_sizes, .ref q_t_items, .ref q_t_spare, .ref q_t_many, .ref q_t_px, .ref q_t_py, .ref q_t_pz, .ref q_t_strip, .ref q_t_kind, .ref q_t_byHand, .ref q_t_round, .ref q_t_lost, .ref q_t_shifts, .ref q_t_matrix, .ref q_t_right, .ref q_t_found, .ref q_t_high, .int t_highs, .ref q_t_near, .ref q_t_cells, .ref q_t_part, .ref q_t_before, .ref q_t_tape, .int t_taped, .int t_at, .int t_fault, .int t_steps, .ref q_t_what, .ref q_t_numbers])), (q_t_cells, .inl (cy 0, (256, .inl t_cells))), (q_t_many, .inl (cy 0, (2, .inl t_many))), (q_t_px, .inl (cy 0, (200, .inl t_px))), (q_t_py, .inl (cy 0, (200, .inl t_py))), (q_t_pz, .inl (cy 0, (200, .inl t_pz))), (q_t_strip, .inl (cy 0, (200, .inl t_strip))), (q_t_shifts, .inl (cy 0, (8, .inl t_shifts))), (q_t_kind, .inl (cy 0, (200, .inl t_kind)))] → va_S A s.heap H locs → ∀ (ls : Array Slot), lv_has ls 4 [(0, .ref q_t), (3, .int v3)] → wp_X9_thirds_b46 (wp_X9_thirds_b18 Q t_cells n18) v3 s0 s1 → W p l e (headSpec wsX9_thirds ({ frames := 2, cells := 0, slots := 0, locals := 47 } : Room)).room s m (([.ref q_t, .int a1] : List Value)).toArray below meth c H locs 0 0 (MQ below (va_Qi (fun (r : Int32) (u : (Nat → Int32)) => Q r u) (py_B D (fun (u : (Nat → Int32)) => [(q_t, .inr (9, [.ref q_t_lanes, .ref q_t_sizes, .ref q_t_items, .ref q_t_spare, .ref q_t_many, .ref q_t_px, .ref q_t_py, .ref q_t_pz, .ref q_t_strip, .ref q_t_kind, .ref q_t_byHand, .ref q_t_round, .ref q_t_lost, .ref q_t_shifts, .ref q_t_matrix, .ref q_t_right, .ref q_t_found, .ref q_t_high, .int t_highs, .ref q_t_near, .ref q_t_cells, .ref q_t_part, .ref q_t_before, .ref q_t_tape, .int t_taped, .int t_at, .int t_fault, .int t_steps, .ref q_t_what, .ref q_t_numbers])), (q_t_cells, .inl (cy 0, (256, .inl u))), (q_t_many, .inl (cy 0, (2, .inl t_many))), (q_t_px, .inl (cy 0, (200, .inl t_px))), (q_t_py, .inl (cy 0, (200, .inl t_py))), (q_t_pz, .inl (cy 0, (200, .inl t_pz))), (q_t_strip, .inl (cy 0, (200, .inl t_strip))), (q_t_shifts, .inl (cy 0, (8, .inl t_shifts))), (q_t_kind, .inl (cy 0, (200, .inl t_kind)))]) A) A) (([.ref q_t, .int a1] : List Value)).toArray s 0 0 A) (F0 m 46 ls [.int s1, .int s0]) := by
            intro v3 s0 s1 H locs hP hD hS ls hl h
            unfold wp_X9_thirds_b46 at h
            refine lv_iadd hx hb dX9_thirds_46 ?_
            refine lv_topi (fun v2_2 ev2_2 => ?_)
            have h := h v2_2 ev2_2
            refine lv_istore_n (lv' := [(2, .int v2_2), (0, .ref q_t), (3, .int v3)]) hx hb dX9_thirds_47 rfl hl (by decide) rfl (fun ls hl => ?_)
            obtain ⟨v3_3, ev3_3⟩ : ∃ y : Int32, y = v3 + (1 : Int32) := ⟨_, rfl⟩
            have h := h v3_3 ev3_3
            refine lv_iinc (v := v3_3) (lv' := [(3, .int v3_3), (2, .int v2_2), (0, .ref q_t)]) hx hb dX9_thirds_48 hl (k := 2) rfl (by rw [ev3_3]; rfl) (by decide) rfl (fun ls hl => ?_)
            refine lv_goto (tgt := 18) hx hb dX9_thirds_51 (by decide) ?_
            exact ih18 v2_2 v3_3 _ _ hP hD hS _ (lv_sub hl [2, 1, 0] rfl) h
          refine lv_iload_n hx hb dX9_thirds_25 rfl (lv_at hl 1 rfl) ?_
          refine lv_aload_n hx hb dX9_thirds_26 rfl (lv_at hl 0 rfl) ?_
          refine lv_iload_n hx hb dX9_thirds_27 rfl (lv_at hl 2 rfl) ?_
          refine lv_bipush (v := (15 : Int32)) hx hb dX9_thirds_28 (by decide) ?_
          refine lv_irem hx hb dX9_thirds_30 (by decide) ?_
          refine lv_iload_n hx hb dX9_thirds_31 rfl (lv_at hl 2 rfl) ?_
          refine lv_bipush (v := (15 : Int32)) hx hb dX9_thirds_32 (by decide) ?_
          refine lv_idiv hx hb dX9_thirds_34 (by decide) ?_
          refine py_ci (py_rVp (As := [.int (v3 - v3 / (15 : Int32) * (15 : Int32)), .int (v3 / (15 : Int32))]) ⟨hx, hb, hml, hown, hts⟩ hKK hP [0, 1] rfl 0 9 rfl rfl (c_X9_isFour l D cy q_t_lanes q_t_sizes q_t_items q_t_spare q_t_many q_t_px q_t_py q_t_pz q_t_strip q_t_kind q_t_byHand q_t_round q_t_lost q_t_shifts q_t_matrix q_t_right q_t_found q_t_high q_t_near q_t_cells q_t_part q_t_before q_t_tape q_t_what q_t_numbers q_t t_highs t_taped t_at t_fault t_steps t_cells (v3 - v3 / (15 : Int32) * (15 : Int32)) (v3 / (15 : Int32)) _ h) (cwV 2 hts gX9_thirds_X9_isFour rfl rfl rfl cdv_X9_isFour ⟨Nat.le_of_ble_eq_true rfl, Nat.le_of_ble_eq_true rfl⟩) rfl hl.1 rfl (Nat.le_of_ble_eq_true rfl) ⟨Nat.zero_le _, Nat.zero_le _⟩ dX9_thirds_35) (fun r_4 h => ?_)
          refine lv_if_eq (tgt := 45) hx hb dX9_thirds_38 (by decide) (fun c_ => ?_) (fun c_ => ?_)
          · have h := h.1 c_
            refine lv_iconst (v := (0 : Int32)) hx hb dX9_thirds_45 (by decide) ?_
            exact j46 v3 v2 (0 : Int32) _ _ hP hD hS _ (lv_sub hl [0, 2] rfl) h
          · have h := h.2 c_
            refine lv_iconst (v := (2 : Int32)) hx hb dX9_thirds_41 (by decide) ?_
            refine lv_goto (tgt := 46) hx hb dX9_thirds_42 (by decide) ?_
            exact j46 v3 v2 (2 : Int32) _ _ hP hD hS _ (lv_sub hl [0, 2] rfl) h
    refine lv_aload_n hx hb dX9_thirds_9 rfl (lv_at hl 0 rfl) ?_
    refine lv_iload_n hx hb dX9_thirds_10 rfl (lv_at hl 1 rfl) ?_
    refine py_wv (wr := []) (py_rVw (As := [.int a1]) ⟨hx, hb, hml, hown, hts⟩ hKK hP hD [0, 1, 2, 3, 4, 5, 6, 7, 8] rfl rfl rfl 0 9 rfl rfl (c_X9_findGrid l D cy q_t_lanes q_t_sizes q_t_items q_t_spare q_t_many q_t_px q_t_py q_t_pz q_t_strip q_t_kind q_t_byHand q_t_round q_t_lost q_t_shifts q_t_matrix q_t_right q_t_found q_t_high q_t_near q_t_cells q_t_part q_t_before q_t_tape q_t_what q_t_numbers q_t t_highs t_taped t_at t_fault t_steps t_cells t_many t_px t_py t_pz t_strip t_shifts t_kind a1 s.heap.size _ h) (cwV 1 hts gX9_thirds_X9_findGrid rfl rfl rfl cdv_X9_findGrid ⟨Nat.le_of_ble_eq_true rfl, Nat.le_of_ble_eq_true rfl⟩) rfl hl.1 rfl (Nat.le_of_ble_eq_true rfl) ⟨Nat.zero_le _, Nat.zero_le _⟩ dX9_thirds_11) hP hD hS hA [0, 1, 2, 3, 4, 5, 6, 7, 8] [] rfl rfl rfl (by decide) (fun u H locs h hP hD hS => ?_)
    obtain ⟨c_cells_6, rfl⟩ : ∃ z, z = u := ⟨_, rfl⟩
    have hP := hP.sub (ws' := [(q_t, .inr (9, [.ref q_t_lanes, .ref q_t_sizes, .ref q_t_items, .ref q_t_spare, .ref q_t_many, .ref q_t_px, .ref q_t_py, .ref q_t_pz, .ref q_t_strip, .ref q_t_kind, .ref q_t_byHand, .ref q_t_round, .ref q_t_lost, .ref q_t_shifts, .ref q_t_matrix, .ref q_t_right, .ref q_t_found, .ref q_t_high, .int t_highs, .ref q_t_near, .ref q_t_cells, .ref q_t_part, .ref q_t_before, .ref q_t_tape, .int t_taped, .int t_at, .int t_fault, .int t_steps, .ref q_t_what, .ref q_t_numbers])), (q_t_cells, .inl (cy 0, (256, .inl c_cells_6))), (q_t_many, .inl (cy 0, (2, .inl t_many))), (q_t_px, .inl (cy 0, (200, .inl t_px))), (q_t_py, .inl (cy 0, (200, .inl t_py))), (q_t_pz, .inl (cy 0, (200, .inl t_pz))), (q_t_strip, .inl (cy 0, (200, .inl t_strip))), (q_t_shifts, .inl (cy 0, (8, .inl t_shifts))), (q_t_kind, .inl (cy 0, (200, .inl t_kind)))]) [0, 1, 2, 3, 4, 5, 6, 7, 8] rfl
    have hD := hD.sub (ws' := [(q_t, .inr (9, [.ref q_t_lanes, .ref q_t_sizes, .ref q_t_items, .ref q_t_spare, .ref q_t_many, .ref q_t_px, .ref q_t_py, .ref q_t_pz, .ref q_t_strip, .ref q_t_kind, .ref q_t_byHand, .ref q_t_round, .ref q_t_lost, .ref q_t_shifts, .ref q_t_matrix, .ref q_t_right, .ref q_t_found, .ref q_t_high, .int t_highs, .ref q_t_near, .ref q_t_cells, .ref q_t_part, .ref q_t_before, .ref q_t_tape, .int t_taped, .int t_at, .int t_fault, .int t_steps, .ref q_t_what, .ref q_t_numbers])), (q_t_cells, .inl (cy 0, (256, .inl c_cells_6))), (q_t_many, .inl (cy 0, (2, .inl t_many))), (q_t_px, .inl (cy 0, (200, .inl t_px))), (q_t_py, .inl (cy 0, (200, .inl t_py))), (q_t_pz, .inl (cy 0, (200, .inl t_pz))), (q_t_strip, .inl (cy 0, (200, .inl t_strip))), (q_t_shifts, .inl (cy 0, (8, .inl t_shifts))), (q_t_kind, .inl (cy 0, (200, .inl t_kind)))]) [0, 1, 2, 3, 4, 5, 6, 7, 8] rfl rfl
    refine lv_iconst (v := (0 : Int32)) hx hb dX9_thirds_14 (by decide) ?_
    refine lv_istore_n (lv' := [(2, .int (0 : Int32)), (0, .ref q_t), (1, .int a1)]) hx hb dX9_thirds_15 rfl hl (by decide) rfl (fun ls hl => ?_)
    refine lv_iconst (v := (0 : Int32)) hx hb dX9_thirds_16 (by decide) ?_
    refine lv_istore_n (lv' := [(3, .int (0 : Int32)), (2, .int (0 : Int32)), (0, .ref q_t), (1, .int a1)]) hx hb dX9_thirds_17 rfl hl (by decide) rfl (fun ls hl => ?_)
    obtain ⟨n, h⟩ := h
    exact lp18 c_cells_6 n (0 : Int32) (0 : Int32) _ _ hP hD hS _ (lv_sub hl [2, 1, 0] rfl) h
  · have h := h.1 c_
    refine lv_iconst (v := (-1 : Int32)) hx hb dX9_thirds_7 (by decide) ?_
    exact W.iret (v := (-1 : Int32)) hx hb hr (fun t ht hW => ⟨⟨(-1 : Int32), t_cells, rfl, h, by rw [ht]; exact hP, hD⟩, hS.F ht⟩) hS.2.2 dX9_thirds_8
set_option maxHeartbeats 4000000 in
set_option maxRecDepth 100000 in
theorem c_X9_isUp (l : Launch) (D : va_G) (cy : Nat → ClassId) (q_t_lanes q_t_sizes q_t_items q_t_spare q_t_many q_t_px q_t_py q_t_pz q_t_strip q_t_kind q_t_byHand q_t_round q_t_lost q_t_shifts q_t_matrix q_t_right q_t_found q_t_high q_t_near q_t_cells q_t_part q_t_before q_t_tape q_t_what q_t_numbers q_t : Nat) (t_highs : Int32) (t_taped : Int32) (t_at : Int32) (t_fault : Int32) (t_steps : Int32) (t_cells : Nat → Int32) (a1 : Int32) (a2 : Int32) (a3 : Int32) (Q : Int32 → Prop) (h : wp_X9_isUp t_cells a1 a2 a3 Q) : Met l yX9_isUp wsX9_isUp ({ frames := 0, cells := 0, slots := 0, locals := 0 } : Room) (py_Pp ([.ref q_t, .int a1, .int a2, .int a3] : List Value) D cy [(q_t, .inr (9, [.ref q_t_lanes, .ref q_t_sizes, .ref q_t_items, .ref q_t_spare, .ref q_t_many, .ref q_t_px, .ref q_t_py, .ref q_t_pz, .ref q_t_strip, .ref q_t_kind, .ref q_t_byHand, .ref q_t_round, .ref q_t_lost, .ref q_t_shifts, .ref q_t_matrix, .ref q_t_right, .ref q_t_found, .ref q_t_high, .int t_highs, .ref q_t_near, .ref q_t_cells, .ref q_t_part, .ref q_t_before, .ref q_t_tape, .int t_taped, .int t_at, .int t_fault, .int t_steps, .ref q_t_what, .ref q_t_numbers])), (q_t_cells, .inl (cy 0, (256, .inl t_cells)))]) (vp_Si Q) 0 0 (fun _ => False) := by
  refine Met.ofW (cc := cX9_isUp) (maxL := 4) (ret := (some .boolean)) (by decide) rfl ?_
  intro p e s m args below meth c s₁ B hml hv
  obtain ⟨rfl, hP, hKK⟩ := hv
  have hK := hKK.1
  have hN := hKK.2
  have hx := B.exec
  have hb := B.bytes
  have hr := B.returns
  have hts := atoms_spec (ws := wsX9_isUp) B.pre
  have hown : s.vm.findClass RX9 = some m.cls := findClass_of_methodNamed B.named
  have hlocks := B.notSynchronized
  have hi_X9 : ∀ w ∈ wsX90, w ∈ wsX9_isUp := fun w h => List.mem_cons_of_mem _ (List.mem_append_right _ (h))
  have hl := lv_entry ([.ref q_t, .int a1, .int a2, .int a3] : List Value) (n := 4) (Nat.le_of_ble_eq_true rfl)
  rw [lg_entry_eq]
  generalize (lg_sl ([.ref q_t, .int a1, .int a2, .int a3] : List Value) ++ List.replicate (4 - (lg_sl ([.ref q_t, .int a1, .int a2, .int a3] : List Value)).length) Slot.unset).toArray = ls at hl ⊢
  have hl : lv_has ls 4 [(0, .ref q_t), (1, .int a1), (2, .int a2), (3, .int a3)] := hl
  unfold wp_X9_isUp at h
  refine lv_aload_n hx hb dX9_isUp_0 rfl (lv_at hl 0 rfl) ?_
  refine va_get (D := D) (ci := 9) (C := RX9) (T := TX9) (N := 30) hx hb hts hi_X9 hown hK hP 0 rfl rfl 20 (by decide) (hts (.fieldLink RX9 69 "RayGroundModel" "cells" "[I") (List.mem_of_getElem? (i := 1) rfl)) (fun _ h9 => h9) rfl dX9_isUp_1 ?_
  refine lv_iload_n hx hb dX9_isUp_4 rfl (lv_at hl 1 rfl) ?_
  refine lv_bipush (v := (16 : Int32)) hx hb dX9_isUp_5 (by decide) ?_
  refine lv_iload_n hx hb dX9_isUp_7 rfl (lv_at hl 2 rfl) ?_
  refine lv_imul hx hb dX9_isUp_8 ?_
  refine lv_iadd hx hb dX9_isUp_9 ?_
  refine py_iald hx hb hK hP 1 0 rfl rfl (k := (a1 + ((16 : Int32) * a2)).toNatClampNeg) rfl h.1 dX9_isUp_10 ?_
  have h := h.2
  refine lv_iload_n hx hb dX9_isUp_11 rfl (lv_at hl 3 rfl) ?_
  refine lv_icmp_lt (tgt := 19) hx hb dX9_isUp_12 (by decide) (fun c_ => ?_) (fun c_ => ?_)
  · have h := h.1 c_
    refine lv_iconst (v := (0 : Int32)) hx hb dX9_isUp_19 (by decide) ?_
    exact W.zret (v := (0 : Int32)) hx hb hr rfl (fun t ht hW => ⟨(0 : Int32), rfl, h, ht⟩) (fun _ hq => by cases hq) dX9_isUp_20
  · have h := h.2 c_
    refine lv_iconst (v := (1 : Int32)) hx hb dX9_isUp_15 (by decide) ?_
    refine lv_goto (tgt := 20) hx hb dX9_isUp_16 (by decide) ?_
    exact W.zret (v := (1 : Int32)) hx hb hr rfl (fun t ht hW => ⟨(1 : Int32), rfl, h, ht⟩) (fun _ hq => by cases hq) dX9_isUp_20
set_option maxHeartbeats 4000000 in
set_option maxRecDepth 100000 in
theorem c_X9_isThird (l : Launch) (D : va_G) (cy : Nat → ClassId) (q_t_lanes q_t_sizes q_t_items q_t_spare q_t_many q_t_px q_t_py q_t_pz q_t_strip q_t_kind q_t_byHand q_t_round q_t_lost q_t_shifts q_t_matrix q_t_right q_t_found q_t_high q_t_near q_t_cells q_t_part q_t_before q_t_tape q_t_what q_t_numbers q_t : Nat) (t_highs : Int32) (t_taped : Int32) (t_at : Int32) (t_fault : Int32) (t_steps : Int32) (t_cells : Nat → Int32) (a1 : Int32) (Q : Int32 → Prop) (h : wp_X9_isThird t_cells a1 Q) : Met l yX9_isThird wsX9_isThird ({ frames := 2, cells := 0, slots := 0, locals := 47 } : Room) (py_Pp ([.ref q_t, .int a1] : List Value) D cy [(q_t, .inr (9, [.ref q_t_lanes, .ref q_t_sizes, .ref q_t_items, .ref q_t_spare, .ref q_t_many, .ref q_t_px, .ref q_t_py, .ref q_t_pz, .ref q_t_strip, .ref q_t_kind, .ref q_t_byHand, .ref q_t_round, .ref q_t_lost, .ref q_t_shifts, .ref q_t_matrix, .ref q_t_right, .ref q_t_found, .ref q_t_high, .int t_highs, .ref q_t_near, .ref q_t_cells, .ref q_t_part, .ref q_t_before, .ref q_t_tape, .int t_taped, .int t_at, .int t_fault, .int t_steps, .ref q_t_what, .ref q_t_numbers])), (q_t_cells, .inl (cy 0, (256, .inl t_cells)))]) (vp_Si Q) 0 0 (fun _ => False) := by
  refine Met.ofW (cc := cX9_isThird) (maxL := 2) (ret := (some .boolean)) (by decide) rfl ?_
  intro p e s m args below meth c s₁ B hml hv
  obtain ⟨rfl, hP, hKK⟩ := hv
  have hK := hKK.1
  have hN := hKK.2
  have hx := B.exec
  have hb := B.bytes
  have hr := B.returns
  have hts := atoms_spec (ws := wsX9_isThird) B.pre
  have hown : s.vm.findClass RX9 = some m.cls := findClass_of_methodNamed B.named
  have hlocks := B.notSynchronized
  have hl := lv_entry ([.ref q_t, .int a1] : List Value) (n := 2) (Nat.le_of_ble_eq_true rfl)
  rw [lg_entry_eq]
  generalize (lg_sl ([.ref q_t, .int a1] : List Value) ++ List.replicate (2 - (lg_sl ([.ref q_t, .int a1] : List Value)).length) Slot.unset).toArray = ls at hl ⊢
  have hl : lv_has ls 2 [(0, .ref q_t), (1, .int a1)] := hl
  unfold wp_X9_isThird at h
  have j25 : ∀ (ls : Array Slot), lv_has ls 2 [] → wp_X9_isThird_b25 Q → W p l e (headSpec wsX9_isThird ({ frames := 2, cells := 0, slots := 0, locals := 47 } : Room)).room s m (([.ref q_t, .int a1] : List Value)).toArray below meth c s.heap [] 0 0 (MQ below (vp_Si Q) (([.ref q_t, .int a1] : List Value)).toArray s 0 0 (fun _ => False)) (F0 m 25 ls []) := by
    intro ls hl h
    unfold wp_X9_isThird_b25 at h
    refine lv_iconst (v := (0 : Int32)) hx hb dX9_isThird_25 (by decide) ?_
    exact W.zret (v := (0 : Int32)) hx hb hr rfl (fun t ht hW => ⟨(0 : Int32), rfl, h, ht⟩) (fun _ hq => by cases hq) dX9_isThird_26
  refine lv_iload_n hx hb dX9_isThird_0 rfl (lv_at hl 1 rfl) ?_
  refine lv_if_lt (tgt := 25) hx hb dX9_isThird_1 (by decide) (fun c_ => ?_) (fun c_ => ?_)
  · have h := h.1 c_
    exact j25 _ (lv_sub hl [] rfl) h
  · have h := h.2 c_
    refine lv_aload_n hx hb dX9_isThird_4 rfl (lv_at hl 0 rfl) ?_
    refine lv_iload_n hx hb dX9_isThird_5 rfl (lv_at hl 1 rfl) ?_
    refine lv_iconst (v := (2 : Int32)) hx hb dX9_isThird_6 (by decide) ?_
    refine lv_idiv hx hb dX9_isThird_7 (by decide) ?_
    refine lv_bipush (v := (15 : Int32)) hx hb dX9_isThird_8 (by decide) ?_
    refine lv_irem hx hb dX9_isThird_10 (by decide) ?_
    refine lv_iload_n hx hb dX9_isThird_11 rfl (lv_at hl 1 rfl) ?_
    refine lv_bipush (v := (30 : Int32)) hx hb dX9_isThird_12 (by decide) ?_
    refine lv_idiv hx hb dX9_isThird_14 (by decide) ?_
    refine py_ci (py_rVp (As := [.int ((a1 / (2 : Int32)) - (a1 / (2 : Int32)) / (15 : Int32) * (15 : Int32)), .int (a1 / (30 : Int32))]) ⟨hx, hb, hml, hown, hts⟩ hKK hP [0, 1] rfl 0 9 rfl rfl (c_X9_isFour l D cy q_t_lanes q_t_sizes q_t_items q_t_spare q_t_many q_t_px q_t_py q_t_pz q_t_strip q_t_kind q_t_byHand q_t_round q_t_lost q_t_shifts q_t_matrix q_t_right q_t_found q_t_high q_t_near q_t_cells q_t_part q_t_before q_t_tape q_t_what q_t_numbers q_t t_highs t_taped t_at t_fault t_steps t_cells ((a1 / (2 : Int32)) - (a1 / (2 : Int32)) / (15 : Int32) * (15 : Int32)) (a1 / (30 : Int32)) _ h) (cwV 2 hts gX9_isThird_X9_isFour rfl rfl rfl cdv_X9_isFour ⟨Nat.le_of_ble_eq_true rfl, Nat.le_of_ble_eq_true rfl⟩) rfl hl.1 rfl (Nat.le_of_ble_eq_true rfl) ⟨Nat.zero_le _, Nat.zero_le _⟩ dX9_isThird_15) (fun r_1 h => ?_)
    refine lv_if_eq (tgt := 25) hx hb dX9_isThird_18 (by decide) (fun c_ => ?_) (fun c_ => ?_)
    · have h := h.1 c_
      exact j25 _ (lv_sub hl [] rfl) h
    · have h := h.2 c_
      refine lv_iconst (v := (1 : Int32)) hx hb dX9_isThird_21 (by decide) ?_
      refine lv_goto (tgt := 26) hx hb dX9_isThird_22 (by decide) ?_
      exact W.zret (v := (1 : Int32)) hx hb hr rfl (fun t ht hW => ⟨(1 : Int32), rfl, h, ht⟩) (fun _ hq => by cases hq) dX9_isThird_26
set_option maxHeartbeats 4000000 in
set_option maxRecDepth 100000 in
theorem c_X9_isCrossed (l : Launch) (D : va_G) (cy : Nat → ClassId) (q_t_lanes q_t_sizes q_t_items q_t_spare q_t_many q_t_px q_t_py q_t_pz q_t_strip q_t_kind q_t_byHand q_t_round q_t_lost q_t_shifts q_t_matrix q_t_right q_t_found q_t_high q_t_near q_t_cells q_t_part q_t_before q_t_tape q_t_what q_t_numbers q_t : Nat) (t_highs : Int32) (t_taped : Int32) (t_at : Int32) (t_fault : Int32) (t_steps : Int32) (t_cells : Nat → Int32) (a1 : Int32) (a2 : Int32) (Q : Int32 → Prop) (h : wp_X9_isCrossed t_cells a1 a2 Q) : Met l yX9_isCrossed wsX9_isCrossed ({ frames := 1, cells := 0, slots := 0, locals := 25 } : Room) (py_Pp ([.ref q_t, .int a1, .int a2] : List Value) D cy [(q_t, .inr (9, [.ref q_t_lanes, .ref q_t_sizes, .ref q_t_items, .ref q_t_spare, .ref q_t_many, .ref q_t_px, .ref q_t_py, .ref q_t_pz, .ref q_t_strip, .ref q_t_kind, .ref q_t_byHand, .ref q_t_round, .ref q_t_lost, .ref q_t_shifts, .ref q_t_matrix, .ref q_t_right, .ref q_t_found, .ref q_t_high, .int t_highs, .ref q_t_near, .ref q_t_cells, .ref q_t_part, .ref q_t_before, .ref q_t_tape, .int t_taped, .int t_at, .int t_fault, .int t_steps, .ref q_t_what, .ref q_t_numbers])), (q_t_cells, .inl (cy 0, (256, .inl t_cells)))]) (vp_Si Q) 0 0 (fun _ => False) := by
  refine Met.ofW (cc := cX9_isCrossed) (maxL := 6) (ret := (some .boolean)) (by decide) rfl ?_
  intro p e s m args below meth c s₁ B hml hv
  obtain ⟨rfl, hP, hKK⟩ := hv
  have hK := hKK.1
  have hN := hKK.2
  have hx := B.exec
  have hb := B.bytes
  have hr := B.returns
  have hts := atoms_spec (ws := wsX9_isCrossed) B.pre
  have hown : s.vm.findClass RX9 = some m.cls := findClass_of_methodNamed B.named
  have hlocks := B.notSynchronized
  have hl := lv_entry ([.ref q_t, .int a1, .int a2] : List Value) (n := 6) (Nat.le_of_ble_eq_true rfl)
  rw [lg_entry_eq]
  generalize (lg_sl ([.ref q_t, .int a1, .int a2] : List Value) ++ List.replicate (6 - (lg_sl ([.ref q_t, .int a1, .int a2] : List Value)).length) Slot.unset).toArray = ls at hl ⊢
  have hl : lv_has ls 6 [(0, .ref q_t), (1, .int a1), (2, .int a2)] := hl
  unfold wp_X9_isCrossed at h
  have j29 : ∀ (v1 : Int32) (v2 : Int32) (v3 : Int32) (v4 : Int32) (s0 : Int32) (ls : Array Slot), lv_has ls 6 [(0, .ref q_t), (1, .int v1), (2, .int v2), (3, .int v3), (4, .int v4)] → wp_X9_isCrossed_b29 Q t_cells v1 v2 v3 v4 s0 → W p l e (headSpec wsX9_isCrossed ({ frames := 1, cells := 0, slots := 0, locals := 25 } : Room)).room s m (([.ref q_t, .int a1, .int a2] : List Value)).toArray below meth c s.heap [] 0 0 (MQ below (vp_Si Q) (([.ref q_t, .int a1, .int a2] : List Value)).toArray s 0 0 (fun _ => False)) (F0 m 29 ls [.int s0]) := by
    intro v1 v2 v3 v4 s0 ls hl h
    unfold wp_X9_isCrossed_b29 at h
    have j49 : ∀ (v1 : Int32) (v2 : Int32) (v3 : Int32) (v4 : Int32) (s0 : Int32) (s1 : Int32) (ls : Array Slot), lv_has ls 6 [(0, .ref q_t), (1, .int v1), (2, .int v2), (3, .int v3), (4, .int v4)] → wp_X9_isCrossed_b49 Q t_cells v1 v2 v3 v4 s0 s1 → W p l e (headSpec wsX9_isCrossed ({ frames := 1, cells := 0, slots := 0, locals := 25 } : Room)).room s m (([.ref q_t, .int a1, .int a2] : List Value)).toArray below meth c s.heap [] 0 0 (MQ below (vp_Si Q) (([.ref q_t, .int a1, .int a2] : List Value)).toArray s 0 0 (fun _ => False)) (F0 m 49 ls [.int s1, .int s0]) := by
      intro v1 v2 v3 v4 s0 s1 ls hl h
      unfold wp_X9_isCrossed_b49 at h
      have j76 : ∀ (s0 : Int32) (s1 : Int32) (ls : Array Slot), lv_has ls 6 [] → wp_X9_isCrossed_b76 Q s0 s1 → W p l e (headSpec wsX9_isCrossed ({ frames := 1, cells := 0, slots := 0, locals := 25 } : Room)).room s m (([.ref q_t, .int a1, .int a2] : List Value)).toArray below meth c s.heap [] 0 0 (MQ below (vp_Si Q) (([.ref q_t, .int a1, .int a2] : List Value)).toArray s 0 0 (fun _ => False)) (F0 m 76 ls [.int s1, .int s0]) := by
        intro s0 s1 ls hl h
        unfold wp_X9_isCrossed_b76 at h
        refine lv_iadd hx hb dX9_isCrossed_76 ?_
        refine lv_topi (fun v5_1 ev5_1 => ?_)
        have h := h v5_1 ev5_1
        refine lv_istore (lv' := [(5, .int v5_1)]) hx hb dX9_isCrossed_77 hl (by decide) rfl (fun ls hl => ?_)
        refine lv_iload hx hb dX9_isCrossed_79 (lv_at hl 0 rfl) ?_
        refine lv_i2l (v := (v5_1.toInt64)) hx hb dX9_isCrossed_81 rfl ?_
        refine lv_lconst (v := (1 : Int64)) hx hb dX9_isCrossed_82 (by decide) ?_
        refine lv_ldc2 (v := (2 : Int64)) hx hb hown (hts (.constantLong RX9 93 (2)) (List.mem_of_getElem? (i := 1) rfl)) dX9_isCrossed_83 ?_
        refine py_ci (py_rSp (As := [.long (v5_1.toInt64), .long (1 : Int64), .long (2 : Int64)]) ⟨hx, hb, hml, hown, hts⟩ hKK hP [] rfl (c_X9_in l D cy (v5_1.toInt64) (1 : Int64) (2 : Int64) _ h) (va_cwS 3 hts gX9_isCrossed_X9_in rfl rfl rfl cd_X9_in ⟨Nat.le_of_ble_eq_true rfl, Nat.le_of_ble_eq_true rfl⟩) rfl hl.1 rfl (Nat.le_of_ble_eq_true rfl) ⟨Nat.zero_le _, Nat.zero_le _⟩ dX9_isCrossed_86) (fun r_2 h => ?_)
        have hz := py_nz h.1
        have h := h.2
        exact W.zret (v := r_2) hx hb hr hz (fun t ht hW => ⟨r_2, rfl, h, ht⟩) (fun _ hq => by cases hq) dX9_isCrossed_89
      refine lv_iadd hx hb dX9_isCrossed_49 ?_
      refine lv_aload_n hx hb dX9_isCrossed_50 rfl (lv_at hl 0 rfl) ?_
      refine lv_iload_n hx hb dX9_isCrossed_51 rfl (lv_at hl 3 rfl) ?_
      refine lv_iconst (v := (1 : Int32)) hx hb dX9_isCrossed_52 (by decide) ?_
      refine lv_iadd hx hb dX9_isCrossed_53 ?_
      refine lv_iload_n hx hb dX9_isCrossed_54 rfl (lv_at hl 1 rfl) ?_
      refine lv_iconst (v := (2 : Int32)) hx hb dX9_isCrossed_55 (by decide) ?_
      refine lv_irem hx hb dX9_isCrossed_56 (by decide) ?_
      refine lv_isub hx hb dX9_isCrossed_57 ?_
      refine lv_iload hx hb dX9_isCrossed_58 (lv_at hl 4 rfl) ?_
      refine lv_iload_n hx hb dX9_isCrossed_60 rfl (lv_at hl 1 rfl) ?_
      refine lv_iconst (v := (2 : Int32)) hx hb dX9_isCrossed_61 (by decide) ?_
      refine lv_irem hx hb dX9_isCrossed_62 (by decide) ?_
      refine lv_iadd hx hb dX9_isCrossed_63 ?_
      refine lv_iload_n hx hb dX9_isCrossed_64 rfl (lv_at hl 2 rfl) ?_
      refine py_ci (py_rVp (As := [.int ((v3 + (1 : Int32)) - (v1 - v1 / (2 : Int32) * (2 : Int32))), .int (v4 + (v1 - v1 / (2 : Int32) * (2 : Int32))), .int v2]) ⟨hx, hb, hml, hown, hts⟩ hKK hP [0, 1] rfl 0 9 rfl rfl (c_X9_isUp l D cy q_t_lanes q_t_sizes q_t_items q_t_spare q_t_many q_t_px q_t_py q_t_pz q_t_strip q_t_kind q_t_byHand q_t_round q_t_lost q_t_shifts q_t_matrix q_t_right q_t_found q_t_high q_t_near q_t_cells q_t_part q_t_before q_t_tape q_t_what q_t_numbers q_t t_highs t_taped t_at t_fault t_steps t_cells ((v3 + (1 : Int32)) - (v1 - v1 / (2 : Int32) * (2 : Int32))) (v4 + (v1 - v1 / (2 : Int32) * (2 : Int32))) v2 _ h) (cwV 3 hts gX9_isCrossed_X9_isUp rfl rfl rfl cdv_X9_isUp ⟨Nat.le_of_ble_eq_true rfl, Nat.le_of_ble_eq_true rfl⟩) rfl hl.1 rfl (Nat.le_of_ble_eq_true rfl) ⟨Nat.zero_le _, Nat.zero_le _⟩ dX9_isCrossed_65) (fun r_3 h => ?_)
      refine lv_if_eq (tgt := 75) hx hb dX9_isCrossed_68 (by decide) (fun c_ => ?_) (fun c_ => ?_)
      · have h := h.1 c_
        refine lv_iconst (v := (0 : Int32)) hx hb dX9_isCrossed_75 (by decide) ?_
        exact j76 (s0 + s1) (0 : Int32) _ (lv_sub hl [] rfl) h
      · have h := h.2 c_
        refine lv_iconst (v := (1 : Int32)) hx hb dX9_isCrossed_71 (by decide) ?_
        refine lv_goto (tgt := 76) hx hb dX9_isCrossed_72 (by decide) ?_
        exact j76 (s0 + s1) (1 : Int32) _ (lv_sub hl [] rfl) h
    refine lv_aload_n hx hb dX9_isCrossed_29 rfl (lv_at hl 0 rfl) ?_
    refine lv_iload_n hx hb dX9_isCrossed_30 rfl (lv_at hl 3 rfl) ?_
    refine lv_iconst (v := (1 : Int32)) hx hb dX9_isCrossed_31 (by decide) ?_
    refine lv_iadd hx hb dX9_isCrossed_32 ?_
    refine lv_iload hx hb dX9_isCrossed_33 (lv_at hl 4 rfl) ?_
    refine lv_iconst (v := (1 : Int32)) hx hb dX9_isCrossed_35 (by decide) ?_
    refine lv_iadd hx hb dX9_isCrossed_36 ?_
    refine lv_iload_n hx hb dX9_isCrossed_37 rfl (lv_at hl 2 rfl) ?_
    refine py_ci (py_rVp (As := [.int (v3 + (1 : Int32)), .int (v4 + (1 : Int32)), .int v2]) ⟨hx, hb, hml, hown, hts⟩ hKK hP [0, 1] rfl 0 9 rfl rfl (c_X9_isUp l D cy q_t_lanes q_t_sizes q_t_items q_t_spare q_t_many q_t_px q_t_py q_t_pz q_t_strip q_t_kind q_t_byHand q_t_round q_t_lost q_t_shifts q_t_matrix q_t_right q_t_found q_t_high q_t_near q_t_cells q_t_part q_t_before q_t_tape q_t_what q_t_numbers q_t t_highs t_taped t_at t_fault t_steps t_cells (v3 + (1 : Int32)) (v4 + (1 : Int32)) v2 _ h) (cwV 3 hts gX9_isCrossed_X9_isUp rfl rfl rfl cdv_X9_isUp ⟨Nat.le_of_ble_eq_true rfl, Nat.le_of_ble_eq_true rfl⟩) rfl hl.1 rfl (Nat.le_of_ble_eq_true rfl) ⟨Nat.zero_le _, Nat.zero_le _⟩ dX9_isCrossed_38) (fun r_4 h => ?_)
    refine lv_if_eq (tgt := 48) hx hb dX9_isCrossed_41 (by decide) (fun c_ => ?_) (fun c_ => ?_)
    · have h := h.1 c_
      refine lv_iconst (v := (0 : Int32)) hx hb dX9_isCrossed_48 (by decide) ?_
      exact j49 v1 v2 v3 v4 s0 (0 : Int32) _ hl h
    · have h := h.2 c_
      refine lv_iconst (v := (1 : Int32)) hx hb dX9_isCrossed_44 (by decide) ?_
      refine lv_goto (tgt := 49) hx hb dX9_isCrossed_45 (by decide) ?_
      exact j49 v1 v2 v3 v4 s0 (1 : Int32) _ hl h
  refine lv_iload_n hx hb dX9_isCrossed_0 rfl (lv_at hl 1 rfl) ?_
  refine lv_iconst (v := (2 : Int32)) hx hb dX9_isCrossed_1 (by decide) ?_
  refine lv_idiv hx hb dX9_isCrossed_2 (by decide) ?_
  refine lv_bipush (v := (15 : Int32)) hx hb dX9_isCrossed_3 (by decide) ?_
  refine lv_irem hx hb dX9_isCrossed_5 (by decide) ?_
  refine lv_topi (fun v3_5 ev3_5 => ?_)
  have h := h v3_5 ev3_5
  refine lv_istore_n (lv' := [(3, .int v3_5), (0, .ref q_t), (1, .int a1), (2, .int a2)]) hx hb dX9_isCrossed_6 rfl hl (by decide) rfl (fun ls hl => ?_)
  refine lv_iload_n hx hb dX9_isCrossed_7 rfl (lv_at hl 2 rfl) ?_
  refine lv_bipush (v := (30 : Int32)) hx hb dX9_isCrossed_8 (by decide) ?_
  refine lv_idiv hx hb dX9_isCrossed_10 (by decide) ?_
  refine lv_topi (fun v4_6 ev4_6 => ?_)
  have h := h v4_6 ev4_6
  refine lv_istore (lv' := [(4, .int v4_6), (3, .int v3_5), (0, .ref q_t), (1, .int a1), (2, .int a2)]) hx hb dX9_isCrossed_11 hl (by decide) rfl (fun ls hl => ?_)
  refine lv_aload_n hx hb dX9_isCrossed_13 rfl (lv_at hl 2 rfl) ?_
  refine lv_iload_n hx hb dX9_isCrossed_14 rfl (lv_at hl 1 rfl) ?_
  refine lv_iload hx hb dX9_isCrossed_15 (lv_at hl 0 rfl) ?_
  refine lv_iload_n hx hb dX9_isCrossed_17 rfl (lv_at hl 4 rfl) ?_
  refine py_ci (py_rVp (As := [.int v3_5, .int v4_6, .int a2]) ⟨hx, hb, hml, hown, hts⟩ hKK hP [0, 1] rfl 0 9 rfl rfl (c_X9_isUp l D cy q_t_lanes q_t_sizes q_t_items q_t_spare q_t_many q_t_px q_t_py q_t_pz q_t_strip q_t_kind q_t_byHand q_t_round q_t_lost q_t_shifts q_t_matrix q_t_right q_t_found q_t_high q_t_near q_t_cells q_t_part q_t_before q_t_tape q_t_what q_t_numbers q_t t_highs t_taped t_at t_fault t_steps t_cells v3_5 v4_6 a2 _ h) (cwV 3 hts gX9_isCrossed_X9_isUp rfl rfl rfl cdv_X9_isUp ⟨Nat.le_of_ble_eq_true rfl, Nat.le_of_ble_eq_true rfl⟩) rfl hl.1 rfl (Nat.le_of_ble_eq_true rfl) ⟨Nat.zero_le _, Nat.zero_le _⟩ dX9_isCrossed_18) (fun r_7 h => ?_)
  refine lv_if_eq (tgt := 28) hx hb dX9_isCrossed_21 (by decide) (fun c_ => ?_) (fun c_ => ?_)
  · have h := h.1 c_
    refine lv_iconst (v := (0 : Int32)) hx hb dX9_isCrossed_28 (by decide) ?_
    exact j29 a1 a2 v3_5 v4_6 (0 : Int32) _ (lv_sub hl [2, 3, 4, 1, 0] rfl) h
  · have h := h.2 c_
    refine lv_iconst (v := (1 : Int32)) hx hb dX9_isCrossed_24 (by decide) ?_
    refine lv_goto (tgt := 29) hx hb dX9_isCrossed_25 (by decide) ?_
    exact j29 a1 a2 v3_5 v4_6 (1 : Int32) _ (lv_sub hl [2, 3, 4, 1, 0] rfl) h
set_option maxHeartbeats 4000000 in
set_option maxRecDepth 100000 in
theorem c_X9_besideOf (l : Launch) (D : va_G) (cy : Nat → ClassId) (q_t_lanes q_t_sizes q_t_items q_t_spare q_t_many q_t_px q_t_py q_t_pz q_t_strip q_t_kind q_t_byHand q_t_round q_t_lost q_t_shifts q_t_matrix q_t_right q_t_found q_t_high q_t_near q_t_cells q_t_part q_t_before q_t_tape q_t_what q_t_numbers q_t : Nat) (t_highs : Int32) (t_taped : Int32) (t_at : Int32) (t_fault : Int32) (t_steps : Int32) (t_cells : Nat → Int32) (a1 : Int32) (a2 : Int32) (Q : Int32 → Prop) (h : wp_X9_besideOf t_cells a1 a2 Q) : Met l yX9_besideOf wsX9_besideOf ({ frames := 2, cells := 0, slots := 0, locals := 47 } : Room) (py_Pp ([.ref q_t, .int a1, .int a2] : List Value) D cy [(q_t, .inr (9, [.ref q_t_lanes, .ref q_t_sizes, .ref q_t_items, .ref q_t_spare, .ref q_t_many, .ref q_t_px, .ref q_t_py, .ref q_t_pz, .ref q_t_strip, .ref q_t_kind, .ref q_t_byHand, .ref q_t_round, .ref q_t_lost, .ref q_t_shifts, .ref q_t_matrix, .ref q_t_right, .ref q_t_found, .ref q_t_high, .int t_highs, .ref q_t_near, .ref q_t_cells, .ref q_t_part, .ref q_t_before, .ref q_t_tape, .int t_taped, .int t_at, .int t_fault, .int t_steps, .ref q_t_what, .ref q_t_numbers])), (q_t_cells, .inl (cy 0, (256, .inl t_cells)))]) (vp_Si Q) 0 0 (fun _ => False) := by
  refine Met.ofW (cc := cX9_besideOf) (maxL := 8) (ret := (some .int)) (by decide) rfl ?_
  intro p e s m args below meth c s₁ B hml hv
  obtain ⟨rfl, hP, hKK⟩ := hv
  have hK := hKK.1
  have hN := hKK.2
  have hx := B.exec
  have hb := B.bytes
  have hr := B.returns
  have hts := atoms_spec (ws := wsX9_besideOf) B.pre
  have hown : s.vm.findClass RX9 = some m.cls := findClass_of_methodNamed B.named
  have hlocks := B.notSynchronized
  have hl := lv_entry ([.ref q_t, .int a1, .int a2] : List Value) (n := 8) (Nat.le_of_ble_eq_true rfl)
  rw [lg_entry_eq]
  generalize (lg_sl ([.ref q_t, .int a1, .int a2] : List Value) ++ List.replicate (8 - (lg_sl ([.ref q_t, .int a1, .int a2] : List Value)).length) Slot.unset).toArray = ls at hl ⊢
  have hl : lv_has ls 8 [(0, .ref q_t), (1, .int a1), (2, .int a2)] := hl
  unfold wp_X9_besideOf at h
  refine lv_iload_n hx hb dX9_besideOf_0 rfl (lv_at hl 1 rfl) ?_
  refine lv_iconst (v := (2 : Int32)) hx hb dX9_besideOf_1 (by decide) ?_
  refine lv_idiv hx hb dX9_besideOf_2 (by decide) ?_
  refine lv_bipush (v := (15 : Int32)) hx hb dX9_besideOf_3 (by decide) ?_
  refine lv_irem hx hb dX9_besideOf_5 (by decide) ?_
  refine lv_topi (fun v3_1 ev3_1 => ?_)
  have h := h v3_1 ev3_1
  refine lv_istore_n (lv' := [(3, .int v3_1), (0, .ref q_t), (1, .int a1), (2, .int a2)]) hx hb dX9_besideOf_6 rfl hl (by decide) rfl (fun ls hl => ?_)
  refine lv_iload_n hx hb dX9_besideOf_7 rfl (lv_at hl 2 rfl) ?_
  refine lv_bipush (v := (30 : Int32)) hx hb dX9_besideOf_8 (by decide) ?_
  refine lv_idiv hx hb dX9_besideOf_10 (by decide) ?_
  refine lv_topi (fun v4_2 ev4_2 => ?_)
  have h := h v4_2 ev4_2
  refine lv_istore (lv' := [(4, .int v4_2), (3, .int v3_1), (0, .ref q_t), (1, .int a1), (2, .int a2)]) hx hb dX9_besideOf_11 hl (by decide) rfl (fun ls hl => ?_)
  refine lv_iload_n hx hb dX9_besideOf_13 rfl (lv_at hl 4 rfl) ?_
  refine lv_if_ne (tgt := 33) hx hb dX9_besideOf_14 (by decide) (fun c_ => ?_) (fun c_ => ?_)
  · have h := h.2 c_
    have j44 : ∀ (v2 : Int32) (v3 : Int32) (v4 : Int32) (s0 : Int32) (ls : Array Slot), lv_has ls 8 [(0, .ref q_t), (2, .int v2), (3, .int v3), (4, .int v4)] → wp_X9_besideOf_b44 Q t_cells v2 v3 v4 s0 → W p l e (headSpec wsX9_besideOf ({ frames := 2, cells := 0, slots := 0, locals := 47 } : Room)).room s m (([.ref q_t, .int a1, .int a2] : List Value)).toArray below meth c s.heap [] 0 0 (MQ below (vp_Si Q) (([.ref q_t, .int a1, .int a2] : List Value)).toArray s 0 0 (fun _ => False)) (F0 m 44 ls [.int s0]) := by
      intro v2 v3 v4 s0 ls hl h
      unfold wp_X9_besideOf_b44 at h
      have j69 : ∀ (v2 : Int32) (v4 : Int32) (v5 : Int32) (s0 : Int32) (ls : Array Slot), lv_has ls 8 [(0, .ref q_t), (2, .int v2), (4, .int v4), (5, .int v5)] → wp_X9_besideOf_b69 Q t_cells v2 v4 v5 s0 → W p l e (headSpec wsX9_besideOf ({ frames := 2, cells := 0, slots := 0, locals := 47 } : Room)).room s m (([.ref q_t, .int a1, .int a2] : List Value)).toArray below meth c s.heap [] 0 0 (MQ below (vp_Si Q) (([.ref q_t, .int a1, .int a2] : List Value)).toArray s 0 0 (fun _ => False)) (F0 m 69 ls [.int s0]) := by
        intro v2 v4 v5 s0 ls hl h
        unfold wp_X9_besideOf_b69 at h
        have j97 : ∀ (v5 : Int32) (v6 : Int32) (s0 : Int32) (ls : Array Slot), lv_has ls 8 [(0, .ref q_t), (5, .int v5), (6, .int v6)] → wp_X9_besideOf_b97 Q t_cells v5 v6 s0 → W p l e (headSpec wsX9_besideOf ({ frames := 2, cells := 0, slots := 0, locals := 47 } : Room)).room s m (([.ref q_t, .int a1, .int a2] : List Value)).toArray below meth c s.heap [] 0 0 (MQ below (vp_Si Q) (([.ref q_t, .int a1, .int a2] : List Value)).toArray s 0 0 (fun _ => False)) (F0 m 97 ls [.int s0]) := by
          intro v5 v6 s0 ls hl h
          unfold wp_X9_besideOf_b97 at h
          have j160 : ∀ (ls : Array Slot), lv_has ls 8 [] → wp_X9_besideOf_b160 Q → W p l e (headSpec wsX9_besideOf ({ frames := 2, cells := 0, slots := 0, locals := 47 } : Room)).room s m (([.ref q_t, .int a1, .int a2] : List Value)).toArray below meth c s.heap [] 0 0 (MQ below (vp_Si Q) (([.ref q_t, .int a1, .int a2] : List Value)).toArray s 0 0 (fun _ => False)) (F0 m 160 ls []) := by
            intro ls hl h
            unfold wp_X9_besideOf_b160 at h
            refine lv_iconst (v := (-1 : Int32)) hx hb dX9_besideOf_160 (by decide) ?_
            exact W.iret (v := (-1 : Int32)) hx hb hr (fun t ht hW => ⟨(-1 : Int32), rfl, h, ht⟩) (fun _ hq => by cases hq) dX9_besideOf_161
          refine lv_istore (lv' := [(7, .int s0), (0, .ref q_t), (5, .int v5), (6, .int v6)]) hx hb dX9_besideOf_97 hl (by decide) rfl (fun ls hl => ?_)
          refine lv_iload hx hb dX9_besideOf_99 (lv_at hl 3 rfl) ?_
          refine lv_i2l (v := (v6.toInt64)) hx hb dX9_besideOf_101 rfl ?_
          refine lv_lconst (v := (0 : Int64)) hx hb dX9_besideOf_102 (by decide) ?_
          refine lv_ldc2 (v := (14 : Int64)) hx hb hown (hts (.constantLong RX9 210 (14)) (List.mem_of_getElem? (i := 1) rfl)) dX9_besideOf_103 ?_
          refine py_ci (py_rSp (As := [.long (v6.toInt64), .long (0 : Int64), .long (14 : Int64)]) ⟨hx, hb, hml, hown, hts⟩ hKK hP [] rfl (c_X9_in l D cy (v6.toInt64) (0 : Int64) (14 : Int64) _ h) (va_cwS 3 hts gX9_besideOf_X9_in rfl rfl rfl cd_X9_in ⟨Nat.le_of_ble_eq_true rfl, Nat.le_of_ble_eq_true rfl⟩) rfl hl.1 rfl (Nat.le_of_ble_eq_true rfl) ⟨Nat.zero_le _, Nat.zero_le _⟩ dX9_besideOf_106) (fun r_3 h => ?_)
          refine lv_if_eq (tgt := 160) hx hb dX9_besideOf_109 (by decide) (fun c_ => ?_) (fun c_ => ?_)
          · have h := h.1 c_
            exact j160 _ (lv_sub hl [] rfl) h
          · have h := h.2 c_
            refine lv_iload hx hb dX9_besideOf_112 (lv_at hl 0 rfl) ?_
            refine lv_i2l (v := (s0.toInt64)) hx hb dX9_besideOf_114 rfl ?_
            refine lv_lconst (v := (0 : Int64)) hx hb dX9_besideOf_115 (by decide) ?_
            refine lv_ldc2 (v := (14 : Int64)) hx hb hown (hts (.constantLong RX9 210 (14)) (List.mem_of_getElem? (i := 1) rfl)) dX9_besideOf_116 ?_
            refine py_ci (py_rSp (As := [.long (s0.toInt64), .long (0 : Int64), .long (14 : Int64)]) ⟨hx, hb, hml, hown, hts⟩ hKK hP [] rfl (c_X9_in l D cy (s0.toInt64) (0 : Int64) (14 : Int64) _ h) (va_cwS 3 hts gX9_besideOf_X9_in rfl rfl rfl cd_X9_in ⟨Nat.le_of_ble_eq_true rfl, Nat.le_of_ble_eq_true rfl⟩) rfl hl.1 rfl (Nat.le_of_ble_eq_true rfl) ⟨Nat.zero_le _, Nat.zero_le _⟩ dX9_besideOf_119) (fun r_4 h => ?_)
            refine lv_if_eq (tgt := 160) hx hb dX9_besideOf_122 (by decide) (fun c_ => ?_) (fun c_ => ?_)
            · have h := h.1 c_
              exact j160 _ (lv_sub hl [] rfl) h
            · have h := h.2 c_
              refine lv_aload_n hx hb dX9_besideOf_125 rfl (lv_at hl 1 rfl) ?_
              refine lv_iload hx hb dX9_besideOf_126 (lv_at hl 3 rfl) ?_
              refine lv_iload hx hb dX9_besideOf_128 (lv_at hl 0 rfl) ?_
              refine py_ci (py_rVp (As := [.int v6, .int s0]) ⟨hx, hb, hml, hown, hts⟩ hKK hP [0, 1] rfl 0 9 rfl rfl (c_X9_isFour l D cy q_t_lanes q_t_sizes q_t_items q_t_spare q_t_many q_t_px q_t_py q_t_pz q_t_strip q_t_kind q_t_byHand q_t_round q_t_lost q_t_shifts q_t_matrix q_t_right q_t_found q_t_high q_t_near q_t_cells q_t_part q_t_before q_t_tape q_t_what q_t_numbers q_t t_highs t_taped t_at t_fault t_steps t_cells v6 s0 _ h) (cwV 2 hts gX9_besideOf_X9_isFour rfl rfl rfl cdv_X9_isFour ⟨Nat.le_of_ble_eq_true rfl, Nat.le_of_ble_eq_true rfl⟩) rfl hl.1 rfl (Nat.le_of_ble_eq_true rfl) ⟨Nat.zero_le _, Nat.zero_le _⟩ dX9_besideOf_130) (fun r_5 h => ?_)
              refine lv_if_eq (tgt := 160) hx hb dX9_besideOf_133 (by decide) (fun c_ => ?_) (fun c_ => ?_)
              · have h := h.1 c_
                exact j160 _ (lv_sub hl [] rfl) h
              · have h := h.2 c_
                have j156 : ∀ (s0 : Int32) (s1 : Int32) (ls : Array Slot), lv_has ls 8 [] → wp_X9_besideOf_b156 Q s0 s1 → W p l e (headSpec wsX9_besideOf ({ frames := 2, cells := 0, slots := 0, locals := 47 } : Room)).room s m (([.ref q_t, .int a1, .int a2] : List Value)).toArray below meth c s.heap [] 0 0 (MQ below (vp_Si Q) (([.ref q_t, .int a1, .int a2] : List Value)).toArray s 0 0 (fun _ => False)) (F0 m 156 ls [.int s1, .int s0]) := by
                  intro s0 s1 ls hl h
                  unfold wp_X9_besideOf_b156 at h
                  refine lv_iadd hx hb dX9_besideOf_156 ?_
                  refine lv_goto (tgt := 161) hx hb dX9_besideOf_157 (by decide) ?_
                  exact W.iret (v := (s0 + s1)) hx hb hr (fun t ht hW => ⟨(s0 + s1), rfl, h, ht⟩) (fun _ hq => by cases hq) dX9_besideOf_161
                refine lv_iconst (v := (2 : Int32)) hx hb dX9_besideOf_136 (by decide) ?_
                refine lv_iload hx hb dX9_besideOf_137 (lv_at hl 3 rfl) ?_
                refine lv_bipush (v := (15 : Int32)) hx hb dX9_besideOf_139 (by decide) ?_
                refine lv_iload hx hb dX9_besideOf_141 (lv_at hl 0 rfl) ?_
                refine lv_imul hx hb dX9_besideOf_143 ?_
                refine lv_iadd hx hb dX9_besideOf_144 ?_
                refine lv_imul hx hb dX9_besideOf_145 ?_
                refine lv_iload hx hb dX9_besideOf_146 (lv_at hl 2 rfl) ?_
                refine lv_if_eq (tgt := 155) hx hb dX9_besideOf_148 (by decide) (fun c_ => ?_) (fun c_ => ?_)
                · have h := h.1 c_
                  refine lv_iconst (v := (0 : Int32)) hx hb dX9_besideOf_155 (by decide) ?_
                  exact j156 ((2 : Int32) * (v6 + ((15 : Int32) * s0))) (0 : Int32) _ (lv_sub hl [] rfl) h
                · have h := h.2 c_
                  refine lv_iconst (v := (1 : Int32)) hx hb dX9_besideOf_151 (by decide) ?_
                  refine lv_goto (tgt := 156) hx hb dX9_besideOf_152 (by decide) ?_
                  exact j156 ((2 : Int32) * (v6 + ((15 : Int32) * s0))) (1 : Int32) _ (lv_sub hl [] rfl) h
        refine lv_istore (lv' := [(6, .int s0), (0, .ref q_t), (2, .int v2), (4, .int v4), (5, .int v5)]) hx hb dX9_besideOf_69 hl (by decide) rfl (fun ls hl => ?_)
        refine lv_iload_n hx hb dX9_besideOf_71 rfl (lv_at hl 2 rfl) ?_
        refine lv_iconst (v := (1 : Int32)) hx hb dX9_besideOf_72 (by decide) ?_
        refine lv_icmp_ne (tgt := 95) hx hb dX9_besideOf_73 (by decide) (fun c_ => ?_) (fun c_ => ?_)
        · have h := h.2 c_
          refine lv_iload hx hb dX9_besideOf_95 (lv_at hl 3 rfl) ?_
          exact j97 v5 s0 v4 _ (lv_sub hl [1, 4, 0] rfl) h
        · have h := h.1 c_
          refine lv_iload hx hb dX9_besideOf_76 (lv_at hl 4 rfl) ?_
          refine lv_if_eq (tgt := 88) hx hb dX9_besideOf_78 (by decide) (fun c_ => ?_) (fun c_ => ?_)
          · have h := h.1 c_
            refine lv_iload hx hb dX9_besideOf_88 (lv_at hl 3 rfl) ?_
            refine lv_iconst (v := (1 : Int32)) hx hb dX9_besideOf_90 (by decide) ?_
            refine lv_iadd hx hb dX9_besideOf_91 ?_
            refine lv_goto (tgt := 97) hx hb dX9_besideOf_92 (by decide) ?_
            exact j97 v5 s0 (v4 + (1 : Int32)) _ (lv_sub hl [1, 4, 0] rfl) h
          · have h := h.2 c_
            refine lv_iload hx hb dX9_besideOf_81 (lv_at hl 3 rfl) ?_
            refine lv_iconst (v := (1 : Int32)) hx hb dX9_besideOf_83 (by decide) ?_
            refine lv_isub hx hb dX9_besideOf_84 ?_
            refine lv_goto (tgt := 97) hx hb dX9_besideOf_85 (by decide) ?_
            exact j97 v5 s0 (v4 - (1 : Int32)) _ (lv_sub hl [1, 4, 0] rfl) h
      refine lv_istore (lv' := [(5, .int s0), (0, .ref q_t), (2, .int v2), (3, .int v3), (4, .int v4)]) hx hb dX9_besideOf_44 hl (by decide) rfl (fun ls hl => ?_)
      refine lv_iload_n hx hb dX9_besideOf_46 rfl (lv_at hl 2 rfl) ?_
      refine lv_iconst (v := (1 : Int32)) hx hb dX9_besideOf_47 (by decide) ?_
      refine lv_icmp_ne (tgt := 55) hx hb dX9_besideOf_48 (by decide) (fun c_ => ?_) (fun c_ => ?_)
      · have h := h.2 c_
        refine lv_iload hx hb dX9_besideOf_55 (lv_at hl 0 rfl) ?_
        refine lv_if_eq (tgt := 66) hx hb dX9_besideOf_57 (by decide) (fun c_ => ?_) (fun c_ => ?_)
        · have h := h.1 c_
          refine lv_iload_n hx hb dX9_besideOf_66 rfl (lv_at hl 3 rfl) ?_
          refine lv_iconst (v := (1 : Int32)) hx hb dX9_besideOf_67 (by decide) ?_
          refine lv_isub hx hb dX9_besideOf_68 ?_
          exact j69 v2 v4 s0 (v3 - (1 : Int32)) _ (lv_sub hl [1, 2, 4, 0] rfl) h
        · have h := h.2 c_
          refine lv_iload_n hx hb dX9_besideOf_60 rfl (lv_at hl 3 rfl) ?_
          refine lv_iconst (v := (1 : Int32)) hx hb dX9_besideOf_61 (by decide) ?_
          refine lv_iadd hx hb dX9_besideOf_62 ?_
          refine lv_goto (tgt := 69) hx hb dX9_besideOf_63 (by decide) ?_
          exact j69 v2 v4 s0 (v3 + (1 : Int32)) _ (lv_sub hl [1, 2, 4, 0] rfl) h
      · have h := h.1 c_
        refine lv_iload_n hx hb dX9_besideOf_51 rfl (lv_at hl 3 rfl) ?_
        refine lv_goto (tgt := 69) hx hb dX9_besideOf_52 (by decide) ?_
        exact j69 v2 v4 s0 v3 _ (lv_sub hl [1, 2, 4, 0] rfl) h
    refine lv_iload_n hx hb dX9_besideOf_33 rfl (lv_at hl 3 rfl) ?_
    refine lv_iconst (v := (2 : Int32)) hx hb dX9_besideOf_34 (by decide) ?_
    refine lv_irem hx hb dX9_besideOf_35 (by decide) ?_
    refine lv_if_ne (tgt := 43) hx hb dX9_besideOf_36 (by decide) (fun c_ => ?_) (fun c_ => ?_)
    · have h := h.2 c_
      refine lv_iconst (v := (0 : Int32)) hx hb dX9_besideOf_43 (by decide) ?_
      exact j44 a2 v3_1 v4_2 (0 : Int32) _ (lv_sub hl [2, 4, 1, 0] rfl) h
    · have h := h.1 c_
      refine lv_iconst (v := (1 : Int32)) hx hb dX9_besideOf_39 (by decide) ?_
      refine lv_goto (tgt := 44) hx hb dX9_besideOf_40 (by decide) ?_
      exact j44 a2 v3_1 v4_2 (1 : Int32) _ (lv_sub hl [2, 4, 1, 0] rfl) h
  · have h := h.1 c_
    refine lv_iload_n hx hb dX9_besideOf_17 rfl (lv_at hl 3 rfl) ?_
    refine lv_iconst (v := (2 : Int32)) hx hb dX9_besideOf_18 (by decide) ?_
    refine lv_irem hx hb dX9_besideOf_19 (by decide) ?_
    refine lv_if_ne (tgt := 29) hx hb dX9_besideOf_20 (by decide) (fun c_ => ?_) (fun c_ => ?_)
    · have h := h.2 c_
      refine lv_iload_n hx hb dX9_besideOf_29 rfl (lv_at hl 3 rfl) ?_
      refine lv_iconst (v := (1 : Int32)) hx hb dX9_besideOf_30 (by decide) ?_
      refine lv_isub hx hb dX9_besideOf_31 ?_
      exact W.iret (v := (a1 - (1 : Int32))) hx hb hr (fun t ht hW => ⟨(a1 - (1 : Int32)), rfl, h, ht⟩) (fun _ hq => by cases hq) dX9_besideOf_32
    · have h := h.1 c_
      refine lv_iload_n hx hb dX9_besideOf_23 rfl (lv_at hl 3 rfl) ?_
      refine lv_iconst (v := (1 : Int32)) hx hb dX9_besideOf_24 (by decide) ?_
      refine lv_iadd hx hb dX9_besideOf_25 ?_
      refine lv_goto (tgt := 32) hx hb dX9_besideOf_26 (by decide) ?_
      exact W.iret (v := (a1 + (1 : Int32))) hx hb hr (fun t ht hW => ⟨(a1 + (1 : Int32)), rfl, h, ht⟩) (fun _ hq => by cases hq) dX9_besideOf_32
set_option maxHeartbeats 4000000 in
set_option maxRecDepth 100000 in
theorem c_X9_isCut (l : Launch) (D : va_G) (cy : Nat → ClassId) (q_t_lanes q_t_sizes q_t_items q_t_spare q_t_many q_t_px q_t_py q_t_pz q_t_strip q_t_kind q_t_byHand q_t_round q_t_lost q_t_shifts q_t_matrix q_t_right q_t_found q_t_high q_t_near q_t_cells q_t_part q_t_before q_t_tape q_t_what q_t_numbers q_t : Nat) (t_highs : Int32) (t_taped : Int32) (t_at : Int32) (t_fault : Int32) (t_steps : Int32) (t_cells : Nat → Int32) (a1 : Int32) (a2 : Int32) (a3 : Int32) (Q : Int32 → Prop) (h : wp_X9_isCut t_cells a1 a2 a3 Q) : Met l yX9_isCut wsX9_isCut ({ frames := 1, cells := 0, slots := 0, locals := 23 } : Room) (py_Pp ([.ref q_t, .int a1, .int a2, .int a3] : List Value) D cy [(q_t, .inr (9, [.ref q_t_lanes, .ref q_t_sizes, .ref q_t_items, .ref q_t_spare, .ref q_t_many, .ref q_t_px, .ref q_t_py, .ref q_t_pz, .ref q_t_strip, .ref q_t_kind, .ref q_t_byHand, .ref q_t_round, .ref q_t_lost, .ref q_t_shifts, .ref q_t_matrix, .ref q_t_right, .ref q_t_found, .ref q_t_high, .int t_highs, .ref q_t_near, .ref q_t_cells, .ref q_t_part, .ref q_t_before, .ref q_t_tape, .int t_taped, .int t_at, .int t_fault, .int t_steps, .ref q_t_what, .ref q_t_numbers])), (q_t_cells, .inl (cy 0, (256, .inl t_cells)))]) (vp_Si Q) 0 0 (fun _ => False) := by
  refine Met.ofW (cc := cX9_isCut) (maxL := 10) (ret := (some .boolean)) (by decide) rfl ?_
  intro p e s m args below meth c s₁ B hml hv
  obtain ⟨rfl, hP, hKK⟩ := hv
  have hK := hKK.1
  have hN := hKK.2
  have hx := B.exec
  have hb := B.bytes
  have hr := B.returns
  have hts := atoms_spec (ws := wsX9_isCut) B.pre
  have hown : s.vm.findClass RX9 = some m.cls := findClass_of_methodNamed B.named
  have hlocks := B.notSynchronized
  have hl := lv_entry ([.ref q_t, .int a1, .int a2, .int a3] : List Value) (n := 10) (Nat.le_of_ble_eq_true rfl)
  rw [lg_entry_eq]
  generalize (lg_sl ([.ref q_t, .int a1, .int a2, .int a3] : List Value) ++ List.replicate (10 - (lg_sl ([.ref q_t, .int a1, .int a2, .int a3] : List Value)).length) Slot.unset).toArray = ls at hl ⊢
  have hl : lv_has ls 10 [(0, .ref q_t), (1, .int a1), (2, .int a2), (3, .int a3)] := hl
  unfold wp_X9_isCut at h
  refine lv_iload_n hx hb dX9_isCut_0 rfl (lv_at hl 1 rfl) ?_
  refine lv_iconst (v := (2 : Int32)) hx hb dX9_isCut_1 (by decide) ?_
  refine lv_idiv hx hb dX9_isCut_2 (by decide) ?_
  refine lv_bipush (v := (15 : Int32)) hx hb dX9_isCut_3 (by decide) ?_
  refine lv_irem hx hb dX9_isCut_5 (by decide) ?_
  refine lv_topi (fun v4_1 ev4_1 => ?_)
  have h := h v4_1 ev4_1
  refine lv_istore (lv' := [(4, .int v4_1), (0, .ref q_t), (1, .int a1), (2, .int a2), (3, .int a3)]) hx hb dX9_isCut_6 hl (by decide) rfl (fun ls hl => ?_)
  refine lv_iload_n hx hb dX9_isCut_8 rfl (lv_at hl 2 rfl) ?_
  refine lv_bipush (v := (30 : Int32)) hx hb dX9_isCut_9 (by decide) ?_
  refine lv_idiv hx hb dX9_isCut_11 (by decide) ?_
  refine lv_topi (fun v5_2 ev5_2 => ?_)
  have h := h v5_2 ev5_2
  refine lv_istore (lv' := [(5, .int v5_2), (4, .int v4_1), (0, .ref q_t), (1, .int a1), (2, .int a2), (3, .int a3)]) hx hb dX9_isCut_12 hl (by decide) rfl (fun ls hl => ?_)
  refine lv_aload_n hx hb dX9_isCut_14 rfl (lv_at hl 2 rfl) ?_
  refine lv_iload hx hb dX9_isCut_15 (lv_at hl 1 rfl) ?_
  refine lv_iload hx hb dX9_isCut_17 (lv_at hl 0 rfl) ?_
  refine lv_iload_n hx hb dX9_isCut_19 rfl (lv_at hl 5 rfl) ?_
  refine py_ci (py_rVp (As := [.int v4_1, .int v5_2, .int a3]) ⟨hx, hb, hml, hown, hts⟩ hKK hP [0, 1] rfl 0 9 rfl rfl (c_X9_isUp l D cy q_t_lanes q_t_sizes q_t_items q_t_spare q_t_many q_t_px q_t_py q_t_pz q_t_strip q_t_kind q_t_byHand q_t_round q_t_lost q_t_shifts q_t_matrix q_t_right q_t_found q_t_high q_t_near q_t_cells q_t_part q_t_before q_t_tape q_t_what q_t_numbers q_t t_highs t_taped t_at t_fault t_steps t_cells v4_1 v5_2 a3 _ h) (cwV 3 hts gX9_isCut_X9_isUp rfl rfl rfl cdv_X9_isUp ⟨Nat.le_of_ble_eq_true rfl, Nat.le_of_ble_eq_true rfl⟩) rfl hl.1 rfl (Nat.le_of_ble_eq_true rfl) ⟨Nat.zero_le _, Nat.zero_le _⟩ dX9_isCut_20) (fun r_3 h => ?_)
  refine lv_istore (lv' := [(6, .int r_3), (5, .int v5_2), (4, .int v4_1), (0, .ref q_t), (1, .int a1), (2, .int a2), (3, .int a3)]) hx hb dX9_isCut_23 hl (by decide) rfl (fun ls hl => ?_)
  refine lv_aload_n hx hb dX9_isCut_25 rfl (lv_at hl 3 rfl) ?_
  refine lv_iload hx hb dX9_isCut_26 (lv_at hl 2 rfl) ?_
  refine lv_iconst (v := (1 : Int32)) hx hb dX9_isCut_28 (by decide) ?_
  refine lv_iadd hx hb dX9_isCut_29 ?_
  refine lv_iload hx hb dX9_isCut_30 (lv_at hl 1 rfl) ?_
  refine lv_iconst (v := (1 : Int32)) hx hb dX9_isCut_32 (by decide) ?_
  refine lv_iadd hx hb dX9_isCut_33 ?_
  refine lv_iload_n hx hb dX9_isCut_34 rfl (lv_at hl 6 rfl) ?_
  refine py_ci (py_rVp (As := [.int (v4_1 + (1 : Int32)), .int (v5_2 + (1 : Int32)), .int a3]) ⟨hx, hb, hml, hown, hts⟩ hKK hP [0, 1] rfl 0 9 rfl rfl (c_X9_isUp l D cy q_t_lanes q_t_sizes q_t_items q_t_spare q_t_many q_t_px q_t_py q_t_pz q_t_strip q_t_kind q_t_byHand q_t_round q_t_lost q_t_shifts q_t_matrix q_t_right q_t_found q_t_high q_t_near q_t_cells q_t_part q_t_before q_t_tape q_t_what q_t_numbers q_t t_highs t_taped t_at t_fault t_steps t_cells (v4_1 + (1 : Int32)) (v5_2 + (1 : Int32)) a3 _ h) (cwV 3 hts gX9_isCut_X9_isUp rfl rfl rfl cdv_X9_isUp ⟨Nat.le_of_ble_eq_true rfl, Nat.le_of_ble_eq_true rfl⟩) rfl hl.1 rfl (Nat.le_of_ble_eq_true rfl) ⟨Nat.zero_le _, Nat.zero_le _⟩ dX9_isCut_35) (fun r_4 h => ?_)
  refine lv_istore (lv' := [(7, .int r_4), (6, .int r_3), (5, .int v5_2), (4, .int v4_1), (0, .ref q_t), (1, .int a1), (2, .int a2), (3, .int a3)]) hx hb dX9_isCut_38 hl (by decide) rfl (fun ls hl => ?_)
  refine lv_aload_n hx hb dX9_isCut_40 rfl (lv_at hl 4 rfl) ?_
  refine lv_iload hx hb dX9_isCut_41 (lv_at hl 3 rfl) ?_
  refine lv_iconst (v := (1 : Int32)) hx hb dX9_isCut_43 (by decide) ?_
  refine lv_iadd hx hb dX9_isCut_44 ?_
  refine lv_iload_n hx hb dX9_isCut_45 rfl (lv_at hl 5 rfl) ?_
  refine lv_iconst (v := (2 : Int32)) hx hb dX9_isCut_46 (by decide) ?_
  refine lv_irem hx hb dX9_isCut_47 (by decide) ?_
  refine lv_isub hx hb dX9_isCut_48 ?_
  refine lv_iload hx hb dX9_isCut_49 (lv_at hl 2 rfl) ?_
  refine lv_iload_n hx hb dX9_isCut_51 rfl (lv_at hl 5 rfl) ?_
  refine lv_iconst (v := (2 : Int32)) hx hb dX9_isCut_52 (by decide) ?_
  refine lv_irem hx hb dX9_isCut_53 (by decide) ?_
  refine lv_iadd hx hb dX9_isCut_54 ?_
  refine lv_iload_n hx hb dX9_isCut_55 rfl (lv_at hl 7 rfl) ?_
  refine py_ci (py_rVp (As := [.int ((v4_1 + (1 : Int32)) - (a1 - a1 / (2 : Int32) * (2 : Int32))), .int (v5_2 + (a1 - a1 / (2 : Int32) * (2 : Int32))), .int a3]) ⟨hx, hb, hml, hown, hts⟩ hKK hP [0, 1] rfl 0 9 rfl rfl (c_X9_isUp l D cy q_t_lanes q_t_sizes q_t_items q_t_spare q_t_many q_t_px q_t_py q_t_pz q_t_strip q_t_kind q_t_byHand q_t_round q_t_lost q_t_shifts q_t_matrix q_t_right q_t_found q_t_high q_t_near q_t_cells q_t_part q_t_before q_t_tape q_t_what q_t_numbers q_t t_highs t_taped t_at t_fault t_steps t_cells ((v4_1 + (1 : Int32)) - (a1 - a1 / (2 : Int32) * (2 : Int32))) (v5_2 + (a1 - a1 / (2 : Int32) * (2 : Int32))) a3 _ h) (cwV 3 hts gX9_isCut_X9_isUp rfl rfl rfl cdv_X9_isUp ⟨Nat.le_of_ble_eq_true rfl, Nat.le_of_ble_eq_true rfl⟩) rfl hl.1 rfl (Nat.le_of_ble_eq_true rfl) ⟨Nat.zero_le _, Nat.zero_le _⟩ dX9_isCut_56) (fun r_5 h => ?_)
  refine lv_istore (lv' := [(8, .int r_5), (7, .int r_4), (6, .int r_3), (5, .int v5_2), (4, .int v4_1), (0, .ref q_t), (1, .int a1), (2, .int a2), (3, .int a3)]) hx hb dX9_isCut_59 hl (by decide) rfl (fun ls hl => ?_)
  refine lv_iload_n hx hb dX9_isCut_61 rfl (lv_at hl 7 rfl) ?_
  refine lv_if_ne (tgt := 78) hx hb dX9_isCut_62 (by decide) (fun c_ => ?_) (fun c_ => ?_)
  · have h := h.2 c_
    have j88 : ∀ (v1 : Int32) (v6 : Int32) (v7 : Int32) (v8 : Int32) (s0 : Int32) (ls : Array Slot), lv_has ls 10 [(1, .int v1), (6, .int v6), (7, .int v7), (8, .int v8)] → wp_X9_isCut_b88 Q v1 v6 v7 v8 s0 → W p l e (headSpec wsX9_isCut ({ frames := 1, cells := 0, slots := 0, locals := 23 } : Room)).room s m (([.ref q_t, .int a1, .int a2, .int a3] : List Value)).toArray below meth c s.heap [] 0 0 (MQ below (vp_Si Q) (([.ref q_t, .int a1, .int a2, .int a3] : List Value)).toArray s 0 0 (fun _ => False)) (F0 m 88 ls [.int s0]) := by
      intro v1 v6 v7 v8 s0 ls hl h
      unfold wp_X9_isCut_b88 at h
      have j105 : ∀ (v6 : Int32) (v7 : Int32) (s0 : Int32) (s1 : Int32) (s2 : Int32) (ls : Array Slot), lv_has ls 10 [(6, .int v6), (7, .int v7)] → wp_X9_isCut_b105 Q v6 v7 s0 s1 s2 → W p l e (headSpec wsX9_isCut ({ frames := 1, cells := 0, slots := 0, locals := 23 } : Room)).room s m (([.ref q_t, .int a1, .int a2, .int a3] : List Value)).toArray below meth c s.heap [] 0 0 (MQ below (vp_Si Q) (([.ref q_t, .int a1, .int a2, .int a3] : List Value)).toArray s 0 0 (fun _ => False)) (F0 m 105 ls [.int s2, .int s1, .int s0]) := by
        intro v6 v7 s0 s1 s2 ls hl h
        unfold wp_X9_isCut_b105 at h
        have j115 : ∀ (s0 : Int32) (s1 : Int32) (ls : Array Slot), lv_has ls 10 [] → wp_X9_isCut_b115 Q s0 s1 → W p l e (headSpec wsX9_isCut ({ frames := 1, cells := 0, slots := 0, locals := 23 } : Room)).room s m (([.ref q_t, .int a1, .int a2, .int a3] : List Value)).toArray below meth c s.heap [] 0 0 (MQ below (vp_Si Q) (([.ref q_t, .int a1, .int a2, .int a3] : List Value)).toArray s 0 0 (fun _ => False)) (F0 m 115 ls [.int s1, .int s0]) := by
          intro s0 s1 ls hl h
          unfold wp_X9_isCut_b115 at h
          refine lv_icmp_eq (tgt := 122) hx hb dX9_isCut_115 (by decide) (fun c_ => ?_) (fun c_ => ?_)
          · have h := h.1 c_
            refine lv_iconst (v := (0 : Int32)) hx hb dX9_isCut_122 (by decide) ?_
            exact W.zret (v := (0 : Int32)) hx hb hr rfl (fun t ht hW => ⟨(0 : Int32), rfl, h, ht⟩) (fun _ hq => by cases hq) dX9_isCut_123
          · have h := h.2 c_
            refine lv_iconst (v := (1 : Int32)) hx hb dX9_isCut_118 (by decide) ?_
            refine lv_goto (tgt := 123) hx hb dX9_isCut_119 (by decide) ?_
            exact W.zret (v := (1 : Int32)) hx hb hr rfl (fun t ht hW => ⟨(1 : Int32), rfl, h, ht⟩) (fun _ hq => by cases hq) dX9_isCut_123
        refine lv_icmp_ne (tgt := 113) hx hb dX9_isCut_105 (by decide) (fun c_ => ?_) (fun c_ => ?_)
        · have h := h.2 c_
          refine lv_iload hx hb dX9_isCut_113 (lv_at hl 1 rfl) ?_
          exact j115 s0 v7 _ (lv_sub hl [] rfl) h
        · have h := h.1 c_
          refine lv_iload hx hb dX9_isCut_108 (lv_at hl 0 rfl) ?_
          refine lv_goto (tgt := 115) hx hb dX9_isCut_110 (by decide) ?_
          exact j115 s0 v6 _ (lv_sub hl [] rfl) h
      refine lv_istore (lv' := [(9, .int s0), (1, .int v1), (6, .int v6), (7, .int v7), (8, .int v8)]) hx hb dX9_isCut_88 hl (by decide) rfl (fun ls hl => ?_)
      refine lv_iload hx hb dX9_isCut_90 (lv_at hl 4 rfl) ?_
      refine lv_iload hx hb dX9_isCut_92 (lv_at hl 0 rfl) ?_
      refine lv_iload_n hx hb dX9_isCut_94 rfl (lv_at hl 1 rfl) ?_
      refine lv_iconst (v := (2 : Int32)) hx hb dX9_isCut_95 (by decide) ?_
      refine lv_irem hx hb dX9_isCut_96 (by decide) ?_
      refine lv_if_ne (tgt := 104) hx hb dX9_isCut_97 (by decide) (fun c_ => ?_) (fun c_ => ?_)
      · have h := h.2 c_
        refine lv_iconst (v := (0 : Int32)) hx hb dX9_isCut_104 (by decide) ?_
        exact j105 v6 v7 v8 s0 (0 : Int32) _ (lv_sub hl [2, 3] rfl) h
      · have h := h.1 c_
        refine lv_iconst (v := (1 : Int32)) hx hb dX9_isCut_100 (by decide) ?_
        refine lv_goto (tgt := 105) hx hb dX9_isCut_101 (by decide) ?_
        exact j105 v6 v7 v8 s0 (1 : Int32) _ (lv_sub hl [2, 3] rfl) h
    refine lv_iload_n hx hb dX9_isCut_78 rfl (lv_at hl 7 rfl) ?_
    refine lv_iconst (v := (1 : Int32)) hx hb dX9_isCut_79 (by decide) ?_
    refine lv_icmp_ne (tgt := 87) hx hb dX9_isCut_80 (by decide) (fun c_ => ?_) (fun c_ => ?_)
    · have h := h.2 c_
      refine lv_iconst (v := (0 : Int32)) hx hb dX9_isCut_87 (by decide) ?_
      exact j88 a1 r_3 r_4 r_5 (0 : Int32) _ (lv_sub hl [6, 2, 1, 0] rfl) h
    · have h := h.1 c_
      refine lv_iconst (v := (1 : Int32)) hx hb dX9_isCut_83 (by decide) ?_
      refine lv_goto (tgt := 88) hx hb dX9_isCut_84 (by decide) ?_
      exact j88 a1 r_3 r_4 r_5 (1 : Int32) _ (lv_sub hl [6, 2, 1, 0] rfl) h
  · have h := h.1 c_
    refine lv_iload hx hb dX9_isCut_65 (lv_at hl 2 rfl) ?_
    refine lv_iload hx hb dX9_isCut_67 (lv_at hl 1 rfl) ?_
    refine lv_icmp_eq (tgt := 76) hx hb dX9_isCut_69 (by decide) (fun c_ => ?_) (fun c_ => ?_)
    · have h := h.1 c_
      refine lv_iconst (v := (0 : Int32)) hx hb dX9_isCut_76 (by decide) ?_
      exact W.zret (v := (0 : Int32)) hx hb hr rfl (fun t ht hW => ⟨(0 : Int32), rfl, h, ht⟩) (fun _ hq => by cases hq) dX9_isCut_77
    · have h := h.2 c_
      refine lv_iconst (v := (1 : Int32)) hx hb dX9_isCut_72 (by decide) ?_
      refine lv_goto (tgt := 77) hx hb dX9_isCut_73 (by decide) ?_
      exact W.zret (v := (1 : Int32)) hx hb hr rfl (fun t ht hW => ⟨(1 : Int32), rfl, h, ht⟩) (fun _ hq => by cases hq) dX9_isCut_77
